section
-- ===== PART A: goes FIRST, ahead of the names: the tables' words, and 'selects' of the private methods out of them =====
/-- a private method of a class that the tables say can be made, by its rows of tables_1 -/
def lw_okq (q : MethodName × Nat) : Prop := (q.1.cls ≠ "java/lang/invoke/MethodHandle" ∧ q.1.cls ≠ "java/lang/invoke/VarHandle") ∧ Cond.instantiable q.1.cls q.2 ∈ tables_1 ∧ Cond.privateMethod q.1 ∈ tables_1 ∧ Cond.instanceMethod q.1 ∈ tables_1
theorem lw_p0 : lw_okq (⟨"NumberFunctions", "appendBytes", "(I)V"⟩, 11) := ⟨⟨by decide +kernel, by decide +kernel⟩, List.mem_of_getElem? (i := 30) (by decide +kernel), List.mem_of_getElem? (i := 186) (by decide +kernel), List.mem_of_getElem? (i := 187) (by decide +kernel)⟩
theorem lw_p1 : lw_okq (⟨"java/lang/Throwable", "fillInStackTrace", "(I)Ljava/lang/Throwable;"⟩, 6) := ⟨⟨by decide +kernel, by decide +kernel⟩, List.mem_of_getElem? (i := 248) (by decide +kernel), List.mem_of_getElem? (i := 246) (by decide +kernel), List.mem_of_getElem? (i := 247) (by decide +kernel)⟩
theorem lw_p2 : lw_okq (⟨"NumberFunctions", "built", "(III)LNumberFunctions$Function;"⟩, 11) := ⟨⟨by decide +kernel, by decide +kernel⟩, List.mem_of_getElem? (i := 30) (by decide +kernel), List.mem_of_getElem? (i := 327) (by decide +kernel), List.mem_of_getElem? (i := 328) (by decide +kernel)⟩
theorem lw_p3 : lw_okq (⟨"NumberFunctions", "isTold", "(III)Z"⟩, 11) := ⟨⟨by decide +kernel, by decide +kernel⟩, List.mem_of_getElem? (i := 30) (by decide +kernel), List.mem_of_getElem? (i := 331) (by decide +kernel), List.mem_of_getElem? (i := 332) (by decide +kernel)⟩
theorem lw_p4 : lw_okq (⟨"NumberFunctions$Telling", "isPair", "(I)Z"⟩, 2) := ⟨⟨by decide +kernel, by decide +kernel⟩, List.mem_of_getElem? (i := 38) (by decide +kernel), List.mem_of_getElem? (i := 342) (by decide +kernel), List.mem_of_getElem? (i := 343) (by decide +kernel)⟩
theorem lw_p5 : lw_okq (⟨"NumberFunctions$Telling", "isOneOf", "(III)Z"⟩, 2) := ⟨⟨by decide +kernel, by decide +kernel⟩, List.mem_of_getElem? (i := 38) (by decide +kernel), List.mem_of_getElem? (i := 346) (by decide +kernel), List.mem_of_getElem? (i := 347) (by decide +kernel)⟩
theorem lw_p6 : lw_okq (⟨"NumberFunctions$Telling", "areBounds", "(II)Z"⟩, 2) := ⟨⟨by decide +kernel, by decide +kernel⟩, List.mem_of_getElem? (i := 38) (by decide +kernel), List.mem_of_getElem? (i := 361) (by decide +kernel), List.mem_of_getElem? (i := 362) (by decide +kernel)⟩
theorem lw_p7 : lw_okq (⟨"NumberFunctions", "builtSamples", "(II[I)LNumberFunctions$Function;"⟩, 11) := ⟨⟨by decide +kernel, by decide +kernel⟩, List.mem_of_getElem? (i := 30) (by decide +kernel), List.mem_of_getElem? (i := 385) (by decide +kernel), List.mem_of_getElem? (i := 386) (by decide +kernel)⟩
theorem lw_p8 : lw_okq (⟨"NumberFunctions$Reader", "wordStart", "(I)I"⟩, 13) := ⟨⟨by decide +kernel, by decide +kernel⟩, List.mem_of_getElem? (i := 72) (by decide +kernel), List.mem_of_getElem? (i := 482) (by decide +kernel), List.mem_of_getElem? (i := 483) (by decide +kernel)⟩
theorem lw_p9 : lw_okq (⟨"NumberFunctions$Reader", "signAt", "(I)I"⟩, 13) := ⟨⟨by decide +kernel, by decide +kernel⟩, List.mem_of_getElem? (i := 72) (by decide +kernel), List.mem_of_getElem? (i := 486) (by decide +kernel), List.mem_of_getElem? (i := 487) (by decide +kernel)⟩
theorem lw_p10 : lw_okq (⟨"NumberFunctions$Reader", "wordEnd", "(I)I"⟩, 13) := ⟨⟨by decide +kernel, by decide +kernel⟩, List.mem_of_getElem? (i := 72) (by decide +kernel), List.mem_of_getElem? (i := 490) (by decide +kernel), List.mem_of_getElem? (i := 491) (by decide +kernel)⟩
theorem lw_p11 : lw_okq (⟨"NumberFunctions$Reader", "take", "(II)I"⟩, 13) := ⟨⟨by decide +kernel, by decide +kernel⟩, List.mem_of_getElem? (i := 72) (by decide +kernel), List.mem_of_getElem? (i := 497) (by decide +kernel), List.mem_of_getElem? (i := 498) (by decide +kernel)⟩
theorem lw_p12 : lw_okq (⟨"NumberFunctions$Word", "isAt", "([BI)Z"⟩, 6) := ⟨⟨by decide +kernel, by decide +kernel⟩, List.mem_of_getElem? (i := 518) (by decide +kernel), List.mem_of_getElem? (i := 516) (by decide +kernel), List.mem_of_getElem? (i := 517) (by decide +kernel)⟩
theorem lw_p13 : lw_okq (⟨"NumberFunctions$Reader", "isMisplaced", "(LNumberFunctions$Word;)Z"⟩, 13) := ⟨⟨by decide +kernel, by decide +kernel⟩, List.mem_of_getElem? (i := 72) (by decide +kernel), List.mem_of_getElem? (i := 559) (by decide +kernel), List.mem_of_getElem? (i := 560) (by decide +kernel)⟩
theorem lw_p14 : lw_okq (⟨"NumberFunctions$Reader", "readNumeral", "(II)I"⟩, 13) := ⟨⟨by decide +kernel, by decide +kernel⟩, List.mem_of_getElem? (i := 72) (by decide +kernel), List.mem_of_getElem? (i := 569) (by decide +kernel), List.mem_of_getElem? (i := 570) (by decide +kernel)⟩
theorem lw_p15 : lw_okq (⟨"NumberFunctions$Reader", "digitsEnd", "(II)I"⟩, 13) := ⟨⟨by decide +kernel, by decide +kernel⟩, List.mem_of_getElem? (i := 72) (by decide +kernel), List.mem_of_getElem? (i := 573) (by decide +kernel), List.mem_of_getElem? (i := 574) (by decide +kernel)⟩
def lw_privs_1 : List (MethodName × Nat) := [(⟨"NumberFunctions", "appendBytes", "(I)V"⟩, 11), (⟨"java/lang/Throwable", "fillInStackTrace", "(I)Ljava/lang/Throwable;"⟩, 6), (⟨"NumberFunctions", "built", "(III)LNumberFunctions$Function;"⟩, 11), (⟨"NumberFunctions", "isTold", "(III)Z"⟩, 11), (⟨"NumberFunctions$Telling", "isPair", "(I)Z"⟩, 2), (⟨"NumberFunctions$Telling", "isOneOf", "(III)Z"⟩, 2), (⟨"NumberFunctions$Telling", "areBounds", "(II)Z"⟩, 2), (⟨"NumberFunctions", "builtSamples", "(II[I)LNumberFunctions$Function;"⟩, 11), (⟨"NumberFunctions$Reader", "wordStart", "(I)I"⟩, 13), (⟨"NumberFunctions$Reader", "signAt", "(I)I"⟩, 13), (⟨"NumberFunctions$Reader", "wordEnd", "(I)I"⟩, 13), (⟨"NumberFunctions$Reader", "take", "(II)I"⟩, 13), (⟨"NumberFunctions$Word", "isAt", "([BI)Z"⟩, 6), (⟨"NumberFunctions$Reader", "isMisplaced", "(LNumberFunctions$Word;)Z"⟩, 13), (⟨"NumberFunctions$Reader", "readNumeral", "(II)I"⟩, 13), (⟨"NumberFunctions$Reader", "digitsEnd", "(II)I"⟩, 13)]
theorem lw_r1 : ∀ q ∈ lw_privs_1, lw_okq q := List.forall_mem_cons.mpr ⟨lw_p0, List.forall_mem_cons.mpr ⟨lw_p1, List.forall_mem_cons.mpr ⟨lw_p2, List.forall_mem_cons.mpr ⟨lw_p3, List.forall_mem_cons.mpr ⟨lw_p4, List.forall_mem_cons.mpr ⟨lw_p5, List.forall_mem_cons.mpr ⟨lw_p6, List.forall_mem_cons.mpr ⟨lw_p7, List.forall_mem_cons.mpr ⟨lw_p8, List.forall_mem_cons.mpr ⟨lw_p9, List.forall_mem_cons.mpr ⟨lw_p10, List.forall_mem_cons.mpr ⟨lw_p11, List.forall_mem_cons.mpr ⟨lw_p12, List.forall_mem_cons.mpr ⟨lw_p13, List.forall_mem_cons.mpr ⟨lw_p14, List.forall_mem_cons.mpr ⟨lw_p15, fun _ h => absurd h List.not_mem_nil⟩⟩⟩⟩⟩⟩⟩⟩⟩⟩⟩⟩⟩⟩⟩⟩
theorem lw_p16 : lw_okq (⟨"NumberFunctions$Reader", "wholePart", "(II)I"⟩, 13) := ⟨⟨by decide +kernel, by decide +kernel⟩, List.mem_of_getElem? (i := 72) (by decide +kernel), List.mem_of_getElem? (i := 577) (by decide +kernel), List.mem_of_getElem? (i := 578) (by decide +kernel)⟩
theorem lw_p17 : lw_okq (⟨"NumberFunctions$Reader", "fractionPart", "(II)I"⟩, 13) := ⟨⟨by decide +kernel, by decide +kernel⟩, List.mem_of_getElem? (i := 72) (by decide +kernel), List.mem_of_getElem? (i := 583) (by decide +kernel), List.mem_of_getElem? (i := 584) (by decide +kernel)⟩
theorem lw_p18 : lw_okq (⟨"NumberFunctions$Reader", "put", "(LNumberFunctions$Word;)V"⟩, 13) := ⟨⟨by decide +kernel, by decide +kernel⟩, List.mem_of_getElem? (i := 72) (by decide +kernel), List.mem_of_getElem? (i := 592) (by decide +kernel), List.mem_of_getElem? (i := 593) (by decide +kernel)⟩
theorem lw_p19 : lw_okq (⟨"NumberFunctions$Reader", "close", "()V"⟩, 13) := ⟨⟨by decide +kernel, by decide +kernel⟩, List.mem_of_getElem? (i := 72) (by decide +kernel), List.mem_of_getElem? (i := 598) (by decide +kernel), List.mem_of_getElem? (i := 599) (by decide +kernel)⟩
theorem lw_p20 : lw_okq (⟨"NumberFunctions$Reader", "joinChoice", "(I)V"⟩, 13) := ⟨⟨by decide +kernel, by decide +kernel⟩, List.mem_of_getElem? (i := 72) (by decide +kernel), List.mem_of_getElem? (i := 602) (by decide +kernel), List.mem_of_getElem? (i := 603) (by decide +kernel)⟩
theorem lw_p21 : lw_okq (⟨"NumberFunctions$Machine", "constant", "(LNumberFunctions$Word;I)I"⟩, 4) := ⟨⟨by decide +kernel, by decide +kernel⟩, List.mem_of_getElem? (i := 125) (by decide +kernel), List.mem_of_getElem? (i := 719) (by decide +kernel), List.mem_of_getElem? (i := 720) (by decide +kernel)⟩
theorem lw_p22 : lw_okq (⟨"NumberFunctions$Machine", "giveTruth", "(IZ)I"⟩, 4) := ⟨⟨by decide +kernel, by decide +kernel⟩, List.mem_of_getElem? (i := 125) (by decide +kernel), List.mem_of_getElem? (i := 727) (by decide +kernel), List.mem_of_getElem? (i := 728) (by decide +kernel)⟩
theorem lw_p23 : lw_okq (⟨"NumberFunctions$Machine", "oneNumber", "(LNumberFunctions$Word;)I"⟩, 4) := ⟨⟨by decide +kernel, by decide +kernel⟩, List.mem_of_getElem? (i := 125) (by decide +kernel), List.mem_of_getElem? (i := 731) (by decide +kernel), List.mem_of_getElem? (i := 732) (by decide +kernel)⟩
theorem lw_p24 : lw_okq (⟨"NumberFunctions$Machine", "twoNumbers", "(LNumberFunctions$Word;)I"⟩, 4) := ⟨⟨by decide +kernel, by decide +kernel⟩, List.mem_of_getElem? (i := 125) (by decide +kernel), List.mem_of_getElem? (i := 763) (by decide +kernel), List.mem_of_getElem? (i := 764) (by decide +kernel)⟩
theorem lw_p25 : lw_okq (⟨"NumberFunctions$Machine", "twoWholes", "(LNumberFunctions$Word;)I"⟩, 4) := ⟨⟨by decide +kernel, by decide +kernel⟩, List.mem_of_getElem? (i := 125) (by decide +kernel), List.mem_of_getElem? (i := 780) (by decide +kernel), List.mem_of_getElem? (i := 781) (by decide +kernel)⟩
theorem lw_p26 : lw_okq (⟨"NumberFunctions$Machine", "faultOfWholes", "(I)I"⟩, 4) := ⟨⟨by decide +kernel, by decide +kernel⟩, List.mem_of_getElem? (i := 125) (by decide +kernel), List.mem_of_getElem? (i := 784) (by decide +kernel), List.mem_of_getElem? (i := 785) (by decide +kernel)⟩
theorem lw_p27 : lw_okq (⟨"NumberFunctions$Machine", "giveWhole", "(II)I"⟩, 4) := ⟨⟨by decide +kernel, by decide +kernel⟩, List.mem_of_getElem? (i := 125) (by decide +kernel), List.mem_of_getElem? (i := 794) (by decide +kernel), List.mem_of_getElem? (i := 795) (by decide +kernel)⟩
theorem lw_p28 : lw_okq (⟨"NumberFunctions$Machine", "comparison", "(LNumberFunctions$Word;)I"⟩, 4) := ⟨⟨by decide +kernel, by decide +kernel⟩, List.mem_of_getElem? (i := 125) (by decide +kernel), List.mem_of_getElem? (i := 801) (by decide +kernel), List.mem_of_getElem? (i := 802) (by decide +kernel)⟩
theorem lw_p29 : lw_okq (⟨"NumberFunctions$Machine", "negation", "()I"⟩, 4) := ⟨⟨by decide +kernel, by decide +kernel⟩, List.mem_of_getElem? (i := 125) (by decide +kernel), List.mem_of_getElem? (i := 814) (by decide +kernel), List.mem_of_getElem? (i := 815) (by decide +kernel)⟩
theorem lw_p30 : lw_okq (⟨"NumberFunctions$Machine", "logic", "(LNumberFunctions$Word;)I"⟩, 4) := ⟨⟨by decide +kernel, by decide +kernel⟩, List.mem_of_getElem? (i := 125) (by decide +kernel), List.mem_of_getElem? (i := 818) (by decide +kernel), List.mem_of_getElem? (i := 819) (by decide +kernel)⟩
theorem lw_p31 : lw_okq (⟨"NumberFunctions$Machine", "move", "(LNumberFunctions$Word;)I"⟩, 4) := ⟨⟨by decide +kernel, by decide +kernel⟩, List.mem_of_getElem? (i := 125) (by decide +kernel), List.mem_of_getElem? (i := 825) (by decide +kernel), List.mem_of_getElem? (i := 826) (by decide +kernel)⟩
def lw_privs_2 : List (MethodName × Nat) := [(⟨"NumberFunctions$Reader", "wholePart", "(II)I"⟩, 13), (⟨"NumberFunctions$Reader", "fractionPart", "(II)I"⟩, 13), (⟨"NumberFunctions$Reader", "put", "(LNumberFunctions$Word;)V"⟩, 13), (⟨"NumberFunctions$Reader", "close", "()V"⟩, 13), (⟨"NumberFunctions$Reader", "joinChoice", "(I)V"⟩, 13), (⟨"NumberFunctions$Machine", "constant", "(LNumberFunctions$Word;I)I"⟩, 4), (⟨"NumberFunctions$Machine", "giveTruth", "(IZ)I"⟩, 4), (⟨"NumberFunctions$Machine", "oneNumber", "(LNumberFunctions$Word;)I"⟩, 4), (⟨"NumberFunctions$Machine", "twoNumbers", "(LNumberFunctions$Word;)I"⟩, 4), (⟨"NumberFunctions$Machine", "twoWholes", "(LNumberFunctions$Word;)I"⟩, 4), (⟨"NumberFunctions$Machine", "faultOfWholes", "(I)I"⟩, 4), (⟨"NumberFunctions$Machine", "giveWhole", "(II)I"⟩, 4), (⟨"NumberFunctions$Machine", "comparison", "(LNumberFunctions$Word;)I"⟩, 4), (⟨"NumberFunctions$Machine", "negation", "()I"⟩, 4), (⟨"NumberFunctions$Machine", "logic", "(LNumberFunctions$Word;)I"⟩, 4), (⟨"NumberFunctions$Machine", "move", "(LNumberFunctions$Word;)I"⟩, 4)]
theorem lw_r2 : ∀ q ∈ lw_privs_2, lw_okq q := List.forall_mem_cons.mpr ⟨lw_p16, List.forall_mem_cons.mpr ⟨lw_p17, List.forall_mem_cons.mpr ⟨lw_p18, List.forall_mem_cons.mpr ⟨lw_p19, List.forall_mem_cons.mpr ⟨lw_p20, List.forall_mem_cons.mpr ⟨lw_p21, List.forall_mem_cons.mpr ⟨lw_p22, List.forall_mem_cons.mpr ⟨lw_p23, List.forall_mem_cons.mpr ⟨lw_p24, List.forall_mem_cons.mpr ⟨lw_p25, List.forall_mem_cons.mpr ⟨lw_p26, List.forall_mem_cons.mpr ⟨lw_p27, List.forall_mem_cons.mpr ⟨lw_p28, List.forall_mem_cons.mpr ⟨lw_p29, List.forall_mem_cons.mpr ⟨lw_p30, List.forall_mem_cons.mpr ⟨lw_p31, fun _ h => absurd h List.not_mem_nil⟩⟩⟩⟩⟩⟩⟩⟩⟩⟩⟩⟩⟩⟩⟩⟩
theorem lw_p32 : lw_okq (⟨"NumberFunctions$Machine", "reverse", "(II)V"⟩, 4) := ⟨⟨by decide +kernel, by decide +kernel⟩, List.mem_of_getElem? (i := 125) (by decide +kernel), List.mem_of_getElem? (i := 829) (by decide +kernel), List.mem_of_getElem? (i := 830) (by decide +kernel)⟩
theorem lw_p33 : lw_okq (⟨"NumberFunctions$Machine", "roll", "()I"⟩, 4) := ⟨⟨by decide +kernel, by decide +kernel⟩, List.mem_of_getElem? (i := 125) (by decide +kernel), List.mem_of_getElem? (i := 835) (by decide +kernel), List.mem_of_getElem? (i := 836) (by decide +kernel)⟩
theorem lw_p34 : lw_okq (⟨"NumberFunctions$Machine", "turn", "(II)V"⟩, 4) := ⟨⟨by decide +kernel, by decide +kernel⟩, List.mem_of_getElem? (i := 125) (by decide +kernel), List.mem_of_getElem? (i := 842) (by decide +kernel), List.mem_of_getElem? (i := 843) (by decide +kernel)⟩
theorem lw_p35 : lw_okq (⟨"NumberFunctions$Machine", "reach", "(LNumberFunctions$Word;)I"⟩, 4) := ⟨⟨by decide +kernel, by decide +kernel⟩, List.mem_of_getElem? (i := 125) (by decide +kernel), List.mem_of_getElem? (i := 846) (by decide +kernel), List.mem_of_getElem? (i := 847) (by decide +kernel)⟩
theorem lw_p36 : lw_okq (⟨"NumberFunctions$Machine", "copyUpper", "(II)I"⟩, 4) := ⟨⟨by decide +kernel, by decide +kernel⟩, List.mem_of_getElem? (i := 125) (by decide +kernel), List.mem_of_getElem? (i := 852) (by decide +kernel), List.mem_of_getElem? (i := 853) (by decide +kernel)⟩
theorem lw_p37 : lw_okq (⟨"NumberFunctions$Machine", "choice", "()I"⟩, 4) := ⟨⟨by decide +kernel, by decide +kernel⟩, List.mem_of_getElem? (i := 125) (by decide +kernel), List.mem_of_getElem? (i := 857) (by decide +kernel), List.mem_of_getElem? (i := 858) (by decide +kernel)⟩
theorem lw_p38 : lw_okq (⟨"NumberFunctions$Program", "takeResults", "([ILNumberFunctions$Fault;)V"⟩, 9) := ⟨⟨by decide +kernel, by decide +kernel⟩, List.mem_of_getElem? (i := 607) (by decide +kernel), List.mem_of_getElem? (i := 862) (by decide +kernel), List.mem_of_getElem? (i := 863) (by decide +kernel)⟩
theorem lw_p39 : lw_okq (⟨"NumberFunctions$Samples", "locate", "(II)V"⟩, 8) := ⟨⟨by decide +kernel, by decide +kernel⟩, List.mem_of_getElem? (i := 392) (by decide +kernel), List.mem_of_getElem? (i := 873) (by decide +kernel), List.mem_of_getElem? (i := 874) (by decide +kernel)⟩
theorem lw_p40 : lw_okq (⟨"NumberFunctions$Samples", "between", "(I)J"⟩, 8) := ⟨⟨by decide +kernel, by decide +kernel⟩, List.mem_of_getElem? (i := 392) (by decide +kernel), List.mem_of_getElem? (i := 886) (by decide +kernel), List.mem_of_getElem? (i := 887) (by decide +kernel)⟩
theorem lw_p41 : lw_okq (⟨"NumberFunctions$Samples", "placeOf", "(I)I"⟩, 8) := ⟨⟨by decide +kernel, by decide +kernel⟩, List.mem_of_getElem? (i := 392) (by decide +kernel), List.mem_of_getElem? (i := 890) (by decide +kernel), List.mem_of_getElem? (i := 891) (by decide +kernel)⟩
theorem lw_p42 : lw_okq (⟨"NumberFunctions$Samples", "sample", "(I)J"⟩, 8) := ⟨⟨by decide +kernel, by decide +kernel⟩, List.mem_of_getElem? (i := 392) (by decide +kernel), List.mem_of_getElem? (i := 895) (by decide +kernel), List.mem_of_getElem? (i := 896) (by decide +kernel)⟩
theorem lw_p43 : lw_okq (⟨"NumberFunctions$Samples", "bitAt", "(I)I"⟩, 8) := ⟨⟨by decide +kernel, by decide +kernel⟩, List.mem_of_getElem? (i := 392) (by decide +kernel), List.mem_of_getElem? (i := 900) (by decide +kernel), List.mem_of_getElem? (i := 901) (by decide +kernel)⟩
theorem lw_p44 : lw_okq (⟨"NumberFunctionsModel", "refused", "(I)Z"⟩, 32) := ⟨⟨by decide +kernel, by decide +kernel⟩, List.mem_of_getElem? (i := 920) (by decide +kernel), List.mem_of_getElem? (i := 1036) (by decide +kernel), List.mem_of_getElem? (i := 1037) (by decide +kernel)⟩
theorem lw_p45 : lw_okq (⟨"NumberFunctionsModel", "tellFault", "(II)V"⟩, 32) := ⟨⟨by decide +kernel, by decide +kernel⟩, List.mem_of_getElem? (i := 920) (by decide +kernel), List.mem_of_getElem? (i := 1078) (by decide +kernel), List.mem_of_getElem? (i := 1079) (by decide +kernel)⟩
theorem lw_p46 : lw_okq (⟨"NumberFunctionsModel", "isTold", "(III)Z"⟩, 32) := ⟨⟨by decide +kernel, by decide +kernel⟩, List.mem_of_getElem? (i := 920) (by decide +kernel), List.mem_of_getElem? (i := 1082) (by decide +kernel), List.mem_of_getElem? (i := 1083) (by decide +kernel)⟩
theorem lw_p47 : lw_okq (⟨"NumberFunctionsModel", "isSamples", "(II)Z"⟩, 32) := ⟨⟨by decide +kernel, by decide +kernel⟩, List.mem_of_getElem? (i := 920) (by decide +kernel), List.mem_of_getElem? (i := 1086) (by decide +kernel), List.mem_of_getElem? (i := 1087) (by decide +kernel)⟩
def lw_privs_3 : List (MethodName × Nat) := [(⟨"NumberFunctions$Machine", "reverse", "(II)V"⟩, 4), (⟨"NumberFunctions$Machine", "roll", "()I"⟩, 4), (⟨"NumberFunctions$Machine", "turn", "(II)V"⟩, 4), (⟨"NumberFunctions$Machine", "reach", "(LNumberFunctions$Word;)I"⟩, 4), (⟨"NumberFunctions$Machine", "copyUpper", "(II)I"⟩, 4), (⟨"NumberFunctions$Machine", "choice", "()I"⟩, 4), (⟨"NumberFunctions$Program", "takeResults", "([ILNumberFunctions$Fault;)V"⟩, 9), (⟨"NumberFunctions$Samples", "locate", "(II)V"⟩, 8), (⟨"NumberFunctions$Samples", "between", "(I)J"⟩, 8), (⟨"NumberFunctions$Samples", "placeOf", "(I)I"⟩, 8), (⟨"NumberFunctions$Samples", "sample", "(I)J"⟩, 8), (⟨"NumberFunctions$Samples", "bitAt", "(I)I"⟩, 8), (⟨"NumberFunctionsModel", "refused", "(I)Z"⟩, 32), (⟨"NumberFunctionsModel", "tellFault", "(II)V"⟩, 32), (⟨"NumberFunctionsModel", "isTold", "(III)Z"⟩, 32), (⟨"NumberFunctionsModel", "isSamples", "(II)Z"⟩, 32)]
theorem lw_r3 : ∀ q ∈ lw_privs_3, lw_okq q := List.forall_mem_cons.mpr ⟨lw_p32, List.forall_mem_cons.mpr ⟨lw_p33, List.forall_mem_cons.mpr ⟨lw_p34, List.forall_mem_cons.mpr ⟨lw_p35, List.forall_mem_cons.mpr ⟨lw_p36, List.forall_mem_cons.mpr ⟨lw_p37, List.forall_mem_cons.mpr ⟨lw_p38, List.forall_mem_cons.mpr ⟨lw_p39, List.forall_mem_cons.mpr ⟨lw_p40, List.forall_mem_cons.mpr ⟨lw_p41, List.forall_mem_cons.mpr ⟨lw_p42, List.forall_mem_cons.mpr ⟨lw_p43, List.forall_mem_cons.mpr ⟨lw_p44, List.forall_mem_cons.mpr ⟨lw_p45, List.forall_mem_cons.mpr ⟨lw_p46, List.forall_mem_cons.mpr ⟨lw_p47, fun _ h => absurd h List.not_mem_nil⟩⟩⟩⟩⟩⟩⟩⟩⟩⟩⟩⟩⟩⟩⟩⟩
theorem lw_p48 : lw_okq (⟨"NumberFunctionsModel", "isPair", "(I)Z"⟩, 32) := ⟨⟨by decide +kernel, by decide +kernel⟩, List.mem_of_getElem? (i := 920) (by decide +kernel), List.mem_of_getElem? (i := 1090) (by decide +kernel), List.mem_of_getElem? (i := 1091) (by decide +kernel)⟩
theorem lw_p49 : lw_okq (⟨"NumberFunctionsModel", "isPowers", "(I)Z"⟩, 32) := ⟨⟨by decide +kernel, by decide +kernel⟩, List.mem_of_getElem? (i := 920) (by decide +kernel), List.mem_of_getElem? (i := 1095) (by decide +kernel), List.mem_of_getElem? (i := 1096) (by decide +kernel)⟩
theorem lw_p50 : lw_okq (⟨"NumberFunctionsModel", "isStitched", "(I)Z"⟩, 32) := ⟨⟨by decide +kernel, by decide +kernel⟩, List.mem_of_getElem? (i := 920) (by decide +kernel), List.mem_of_getElem? (i := 1100) (by decide +kernel), List.mem_of_getElem? (i := 1101) (by decide +kernel)⟩
theorem lw_p51 : lw_okq (⟨"NumberFunctionsModel", "arePairs", "(I)Z"⟩, 32) := ⟨⟨by decide +kernel, by decide +kernel⟩, List.mem_of_getElem? (i := 920) (by decide +kernel), List.mem_of_getElem? (i := 1105) (by decide +kernel), List.mem_of_getElem? (i := 1106) (by decide +kernel)⟩
theorem lw_p52 : lw_okq (⟨"NumberFunctionsModel", "sampleBytes", "(II)I"⟩, 32) := ⟨⟨by decide +kernel, by decide +kernel⟩, List.mem_of_getElem? (i := 920) (by decide +kernel), List.mem_of_getElem? (i := 1109) (by decide +kernel), List.mem_of_getElem? (i := 1110) (by decide +kernel)⟩
theorem lw_p53 : lw_okq (⟨"NumberFunctionsModel", "readWords", "(I)V"⟩, 32) := ⟨⟨by decide +kernel, by decide +kernel⟩, List.mem_of_getElem? (i := 920) (by decide +kernel), List.mem_of_getElem? (i := 1114) (by decide +kernel), List.mem_of_getElem? (i := 1115) (by decide +kernel)⟩
theorem lw_p54 : lw_okq (⟨"NumberFunctionsModel", "signAt", "(II)I"⟩, 32) := ⟨⟨by decide +kernel, by decide +kernel⟩, List.mem_of_getElem? (i := 920) (by decide +kernel), List.mem_of_getElem? (i := 1118) (by decide +kernel), List.mem_of_getElem? (i := 1119) (by decide +kernel)⟩
theorem lw_p55 : lw_okq (⟨"NumberFunctionsModel", "show", "(II)V"⟩, 32) := ⟨⟨by decide +kernel, by decide +kernel⟩, List.mem_of_getElem? (i := 920) (by decide +kernel), List.mem_of_getElem? (i := 1125) (by decide +kernel), List.mem_of_getElem? (i := 1126) (by decide +kernel)⟩
theorem lw_p56 : lw_okq (⟨"NumberFunctionsModel", "isWord", "(IILjava/lang/String;)Z"⟩, 32) := ⟨⟨by decide +kernel, by decide +kernel⟩, List.mem_of_getElem? (i := 920) (by decide +kernel), List.mem_of_getElem? (i := 1130) (by decide +kernel), List.mem_of_getElem? (i := 1131) (by decide +kernel)⟩
theorem lw_p57 : lw_okq (⟨"NumberFunctionsModel", "checkWord", "(III)V"⟩, 32) := ⟨⟨by decide +kernel, by decide +kernel⟩, List.mem_of_getElem? (i := 920) (by decide +kernel), List.mem_of_getElem? (i := 1137) (by decide +kernel), List.mem_of_getElem? (i := 1138) (by decide +kernel)⟩
theorem lw_p58 : lw_okq (⟨"NumberFunctionsModel", "isNumber", "(II)Z"⟩, 32) := ⟨⟨by decide +kernel, by decide +kernel⟩, List.mem_of_getElem? (i := 920) (by decide +kernel), List.mem_of_getElem? (i := 1141) (by decide +kernel), List.mem_of_getElem? (i := 1142) (by decide +kernel)⟩
theorem lw_p59 : lw_okq (⟨"NumberFunctionsModel", "partOf", "(IIZ)J"⟩, 32) := ⟨⟨by decide +kernel, by decide +kernel⟩, List.mem_of_getElem? (i := 920) (by decide +kernel), List.mem_of_getElem? (i := 1148) (by decide +kernel), List.mem_of_getElem? (i := 1149) (by decide +kernel)⟩
theorem lw_p60 : lw_okq (⟨"NumberFunctionsModel", "nameOf", "(II)I"⟩, 32) := ⟨⟨by decide +kernel, by decide +kernel⟩, List.mem_of_getElem? (i := 920) (by decide +kernel), List.mem_of_getElem? (i := 1158) (by decide +kernel), List.mem_of_getElem? (i := 1159) (by decide +kernel)⟩
theorem lw_p61 : lw_okq (⟨"NumberFunctionsModel", "stitched", "(IJ)J"⟩, 32) := ⟨⟨by decide +kernel, by decide +kernel⟩, List.mem_of_getElem? (i := 920) (by decide +kernel), List.mem_of_getElem? (i := 1203) (by decide +kernel), List.mem_of_getElem? (i := 1204) (by decide +kernel)⟩
theorem lw_p62 : lw_okq (⟨"NumberFunctionsModel", "of", "(II)J"⟩, 32) := ⟨⟨by decide +kernel, by decide +kernel⟩, List.mem_of_getElem? (i := 920) (by decide +kernel), List.mem_of_getElem? (i := 1207) (by decide +kernel), List.mem_of_getElem? (i := 1208) (by decide +kernel)⟩
theorem lw_p63 : lw_okq (⟨"NumberFunctionsModel", "samples", "(IJ)V"⟩, 32) := ⟨⟨by decide +kernel, by decide +kernel⟩, List.mem_of_getElem? (i := 920) (by decide +kernel), List.mem_of_getElem? (i := 1224) (by decide +kernel), List.mem_of_getElem? (i := 1225) (by decide +kernel)⟩
def lw_privs_4 : List (MethodName × Nat) := [(⟨"NumberFunctionsModel", "isPair", "(I)Z"⟩, 32), (⟨"NumberFunctionsModel", "isPowers", "(I)Z"⟩, 32), (⟨"NumberFunctionsModel", "isStitched", "(I)Z"⟩, 32), (⟨"NumberFunctionsModel", "arePairs", "(I)Z"⟩, 32), (⟨"NumberFunctionsModel", "sampleBytes", "(II)I"⟩, 32), (⟨"NumberFunctionsModel", "readWords", "(I)V"⟩, 32), (⟨"NumberFunctionsModel", "signAt", "(II)I"⟩, 32), (⟨"NumberFunctionsModel", "show", "(II)V"⟩, 32), (⟨"NumberFunctionsModel", "isWord", "(IILjava/lang/String;)Z"⟩, 32), (⟨"NumberFunctionsModel", "checkWord", "(III)V"⟩, 32), (⟨"NumberFunctionsModel", "isNumber", "(II)Z"⟩, 32), (⟨"NumberFunctionsModel", "partOf", "(IIZ)J"⟩, 32), (⟨"NumberFunctionsModel", "nameOf", "(II)I"⟩, 32), (⟨"NumberFunctionsModel", "stitched", "(IJ)J"⟩, 32), (⟨"NumberFunctionsModel", "of", "(II)J"⟩, 32), (⟨"NumberFunctionsModel", "samples", "(IJ)V"⟩, 32)]
theorem lw_r4 : ∀ q ∈ lw_privs_4, lw_okq q := List.forall_mem_cons.mpr ⟨lw_p48, List.forall_mem_cons.mpr ⟨lw_p49, List.forall_mem_cons.mpr ⟨lw_p50, List.forall_mem_cons.mpr ⟨lw_p51, List.forall_mem_cons.mpr ⟨lw_p52, List.forall_mem_cons.mpr ⟨lw_p53, List.forall_mem_cons.mpr ⟨lw_p54, List.forall_mem_cons.mpr ⟨lw_p55, List.forall_mem_cons.mpr ⟨lw_p56, List.forall_mem_cons.mpr ⟨lw_p57, List.forall_mem_cons.mpr ⟨lw_p58, List.forall_mem_cons.mpr ⟨lw_p59, List.forall_mem_cons.mpr ⟨lw_p60, List.forall_mem_cons.mpr ⟨lw_p61, List.forall_mem_cons.mpr ⟨lw_p62, List.forall_mem_cons.mpr ⟨lw_p63, fun _ h => absurd h List.not_mem_nil⟩⟩⟩⟩⟩⟩⟩⟩⟩⟩⟩⟩⟩⟩⟩⟩
theorem lw_p64 : lw_okq (⟨"NumberFunctionsModel", "inputOf", "(IJ)J"⟩, 32) := ⟨⟨by decide +kernel, by decide +kernel⟩, List.mem_of_getElem? (i := 920) (by decide +kernel), List.mem_of_getElem? (i := 1228) (by decide +kernel), List.mem_of_getElem? (i := 1229) (by decide +kernel)⟩
theorem lw_p65 : lw_okq (⟨"NumberFunctionsModel", "interpolated", "(III)J"⟩, 32) := ⟨⟨by decide +kernel, by decide +kernel⟩, List.mem_of_getElem? (i := 920) (by decide +kernel), List.mem_of_getElem? (i := 1232) (by decide +kernel), List.mem_of_getElem? (i := 1233) (by decide +kernel)⟩
theorem lw_p66 : lw_okq (⟨"NumberFunctionsModel", "sampleAt", "(IJI)J"⟩, 32) := ⟨⟨by decide +kernel, by decide +kernel⟩, List.mem_of_getElem? (i := 920) (by decide +kernel), List.mem_of_getElem? (i := 1236) (by decide +kernel), List.mem_of_getElem? (i := 1237) (by decide +kernel)⟩
theorem lw_p67 : lw_okq (⟨"NumberFunctionsModel", "decoded", "(IIJI)J"⟩, 32) := ⟨⟨by decide +kernel, by decide +kernel⟩, List.mem_of_getElem? (i := 920) (by decide +kernel), List.mem_of_getElem? (i := 1240) (by decide +kernel), List.mem_of_getElem? (i := 1241) (by decide +kernel)⟩
theorem lw_p68 : lw_okq (⟨"NumberFunctionsModel", "powers", "(IJ)V"⟩, 32) := ⟨⟨by decide +kernel, by decide +kernel⟩, List.mem_of_getElem? (i := 920) (by decide +kernel), List.mem_of_getElem? (i := 1244) (by decide +kernel), List.mem_of_getElem? (i := 1245) (by decide +kernel)⟩
theorem lw_p69 : lw_okq (⟨"NumberFunctionsModel", "program", "(IJ)V"⟩, 32) := ⟨⟨by decide +kernel, by decide +kernel⟩, List.mem_of_getElem? (i := 920) (by decide +kernel), List.mem_of_getElem? (i := 1251) (by decide +kernel), List.mem_of_getElem? (i := 1252) (by decide +kernel)⟩
theorem lw_p70 : lw_okq (⟨"NumberFunctionsModel", "isGood", "()Z"⟩, 32) := ⟨⟨by decide +kernel, by decide +kernel⟩, List.mem_of_getElem? (i := 920) (by decide +kernel), List.mem_of_getElem? (i := 1255) (by decide +kernel), List.mem_of_getElem? (i := 1256) (by decide +kernel)⟩
theorem lw_p71 : lw_okq (⟨"NumberFunctionsModel", "next", "(II)I"⟩, 32) := ⟨⟨by decide +kernel, by decide +kernel⟩, List.mem_of_getElem? (i := 920) (by decide +kernel), List.mem_of_getElem? (i := 1259) (by decide +kernel), List.mem_of_getElem? (i := 1260) (by decide +kernel)⟩
theorem lw_p72 : lw_okq (⟨"NumberFunctionsModel", "choose", "(II)I"⟩, 32) := ⟨⟨by decide +kernel, by decide +kernel⟩, List.mem_of_getElem? (i := 920) (by decide +kernel), List.mem_of_getElem? (i := 1265) (by decide +kernel), List.mem_of_getElem? (i := 1266) (by decide +kernel)⟩
theorem lw_p73 : lw_okq (⟨"NumberFunctionsModel", "matchOf", "(II)I"⟩, 32) := ⟨⟨by decide +kernel, by decide +kernel⟩, List.mem_of_getElem? (i := 920) (by decide +kernel), List.mem_of_getElem? (i := 1269) (by decide +kernel), List.mem_of_getElem? (i := 1270) (by decide +kernel)⟩
theorem lw_p74 : lw_okq (⟨"NumberFunctionsModel", "has", "(I)Z"⟩, 32) := ⟨⟨by decide +kernel, by decide +kernel⟩, List.mem_of_getElem? (i := 920) (by decide +kernel), List.mem_of_getElem? (i := 1273) (by decide +kernel), List.mem_of_getElem? (i := 1274) (by decide +kernel)⟩
theorem lw_p75 : lw_okq (⟨"NumberFunctionsModel", "fail", "(I)V"⟩, 32) := ⟨⟨by decide +kernel, by decide +kernel⟩, List.mem_of_getElem? (i := 920) (by decide +kernel), List.mem_of_getElem? (i := 1277) (by decide +kernel), List.mem_of_getElem? (i := 1278) (by decide +kernel)⟩
theorem lw_p76 : lw_okq (⟨"NumberFunctionsModel", "take", "()J"⟩, 32) := ⟨⟨by decide +kernel, by decide +kernel⟩, List.mem_of_getElem? (i := 920) (by decide +kernel), List.mem_of_getElem? (i := 1281) (by decide +kernel), List.mem_of_getElem? (i := 1282) (by decide +kernel)⟩
theorem lw_p77 : lw_okq (⟨"NumberFunctionsModel", "putNumber", "(J)V"⟩, 32) := ⟨⟨by decide +kernel, by decide +kernel⟩, List.mem_of_getElem? (i := 920) (by decide +kernel), List.mem_of_getElem? (i := 1285) (by decide +kernel), List.mem_of_getElem? (i := 1286) (by decide +kernel)⟩
theorem lw_p78 : lw_okq (⟨"NumberFunctionsModel", "put", "(JZ)V"⟩, 32) := ⟨⟨by decide +kernel, by decide +kernel⟩, List.mem_of_getElem? (i := 920) (by decide +kernel), List.mem_of_getElem? (i := 1289) (by decide +kernel), List.mem_of_getElem? (i := 1290) (by decide +kernel)⟩
theorem lw_p79 : lw_okq (⟨"NumberFunctionsModel", "perform", "(I)V"⟩, 32) := ⟨⟨by decide +kernel, by decide +kernel⟩, List.mem_of_getElem? (i := 920) (by decide +kernel), List.mem_of_getElem? (i := 1293) (by decide +kernel), List.mem_of_getElem? (i := 1294) (by decide +kernel)⟩
def lw_privs_5 : List (MethodName × Nat) := [(⟨"NumberFunctionsModel", "inputOf", "(IJ)J"⟩, 32), (⟨"NumberFunctionsModel", "interpolated", "(III)J"⟩, 32), (⟨"NumberFunctionsModel", "sampleAt", "(IJI)J"⟩, 32), (⟨"NumberFunctionsModel", "decoded", "(IIJI)J"⟩, 32), (⟨"NumberFunctionsModel", "powers", "(IJ)V"⟩, 32), (⟨"NumberFunctionsModel", "program", "(IJ)V"⟩, 32), (⟨"NumberFunctionsModel", "isGood", "()Z"⟩, 32), (⟨"NumberFunctionsModel", "next", "(II)I"⟩, 32), (⟨"NumberFunctionsModel", "choose", "(II)I"⟩, 32), (⟨"NumberFunctionsModel", "matchOf", "(II)I"⟩, 32), (⟨"NumberFunctionsModel", "has", "(I)Z"⟩, 32), (⟨"NumberFunctionsModel", "fail", "(I)V"⟩, 32), (⟨"NumberFunctionsModel", "take", "()J"⟩, 32), (⟨"NumberFunctionsModel", "putNumber", "(J)V"⟩, 32), (⟨"NumberFunctionsModel", "put", "(JZ)V"⟩, 32), (⟨"NumberFunctionsModel", "perform", "(I)V"⟩, 32)]
theorem lw_r5 : ∀ q ∈ lw_privs_5, lw_okq q := List.forall_mem_cons.mpr ⟨lw_p64, List.forall_mem_cons.mpr ⟨lw_p65, List.forall_mem_cons.mpr ⟨lw_p66, List.forall_mem_cons.mpr ⟨lw_p67, List.forall_mem_cons.mpr ⟨lw_p68, List.forall_mem_cons.mpr ⟨lw_p69, List.forall_mem_cons.mpr ⟨lw_p70, List.forall_mem_cons.mpr ⟨lw_p71, List.forall_mem_cons.mpr ⟨lw_p72, List.forall_mem_cons.mpr ⟨lw_p73, List.forall_mem_cons.mpr ⟨lw_p74, List.forall_mem_cons.mpr ⟨lw_p75, List.forall_mem_cons.mpr ⟨lw_p76, List.forall_mem_cons.mpr ⟨lw_p77, List.forall_mem_cons.mpr ⟨lw_p78, List.forall_mem_cons.mpr ⟨lw_p79, fun _ h => absurd h List.not_mem_nil⟩⟩⟩⟩⟩⟩⟩⟩⟩⟩⟩⟩⟩⟩⟩⟩
theorem lw_p80 : lw_okq (⟨"NumberFunctionsModel", "one", "(I)V"⟩, 32) := ⟨⟨by decide +kernel, by decide +kernel⟩, List.mem_of_getElem? (i := 920) (by decide +kernel), List.mem_of_getElem? (i := 1297) (by decide +kernel), List.mem_of_getElem? (i := 1298) (by decide +kernel)⟩
theorem lw_p81 : lw_okq (⟨"NumberFunctionsModel", "areNumbers", "(I)Z"⟩, 32) := ⟨⟨by decide +kernel, by decide +kernel⟩, List.mem_of_getElem? (i := 920) (by decide +kernel), List.mem_of_getElem? (i := 1301) (by decide +kernel), List.mem_of_getElem? (i := 1302) (by decide +kernel)⟩
theorem lw_p82 : lw_okq (⟨"NumberFunctionsModel", "two", "(I)V"⟩, 32) := ⟨⟨by decide +kernel, by decide +kernel⟩, List.mem_of_getElem? (i := 920) (by decide +kernel), List.mem_of_getElem? (i := 1314) (by decide +kernel), List.mem_of_getElem? (i := 1315) (by decide +kernel)⟩
theorem lw_p83 : lw_okq (⟨"NumberFunctionsModel", "areWhole", "(I)Z"⟩, 32) := ⟨⟨by decide +kernel, by decide +kernel⟩, List.mem_of_getElem? (i := 920) (by decide +kernel), List.mem_of_getElem? (i := 1318) (by decide +kernel), List.mem_of_getElem? (i := 1319) (by decide +kernel)⟩
theorem lw_p84 : lw_okq (⟨"NumberFunctionsModel", "compare", "(I)V"⟩, 32) := ⟨⟨by decide +kernel, by decide +kernel⟩, List.mem_of_getElem? (i := 920) (by decide +kernel), List.mem_of_getElem? (i := 1322) (by decide +kernel), List.mem_of_getElem? (i := 1323) (by decide +kernel)⟩
theorem lw_p85 : lw_okq (⟨"NumberFunctionsModel", "putTruth", "(Z)V"⟩, 32) := ⟨⟨by decide +kernel, by decide +kernel⟩, List.mem_of_getElem? (i := 920) (by decide +kernel), List.mem_of_getElem? (i := 1326) (by decide +kernel), List.mem_of_getElem? (i := 1327) (by decide +kernel)⟩
theorem lw_p86 : lw_okq (⟨"NumberFunctionsModel", "bits", "(I)V"⟩, 32) := ⟨⟨by decide +kernel, by decide +kernel⟩, List.mem_of_getElem? (i := 920) (by decide +kernel), List.mem_of_getElem? (i := 1330) (by decide +kernel), List.mem_of_getElem? (i := 1331) (by decide +kernel)⟩
theorem lw_p87 : lw_okq (⟨"NumberFunctionsModel", "join", "(I)V"⟩, 32) := ⟨⟨by decide +kernel, by decide +kernel⟩, List.mem_of_getElem? (i := 920) (by decide +kernel), List.mem_of_getElem? (i := 1334) (by decide +kernel), List.mem_of_getElem? (i := 1335) (by decide +kernel)⟩
theorem lw_p88 : lw_okq (⟨"NumberFunctionsModel", "not", "()V"⟩, 32) := ⟨⟨by decide +kernel, by decide +kernel⟩, List.mem_of_getElem? (i := 920) (by decide +kernel), List.mem_of_getElem? (i := 1341) (by decide +kernel), List.mem_of_getElem? (i := 1342) (by decide +kernel)⟩
theorem lw_p89 : lw_okq (⟨"NumberFunctionsModel", "shift", "()V"⟩, 32) := ⟨⟨by decide +kernel, by decide +kernel⟩, List.mem_of_getElem? (i := 920) (by decide +kernel), List.mem_of_getElem? (i := 1346) (by decide +kernel), List.mem_of_getElem? (i := 1347) (by decide +kernel)⟩
theorem lw_p90 : lw_okq (⟨"NumberFunctionsModel", "move", "(I)V"⟩, 32) := ⟨⟨by decide +kernel, by decide +kernel⟩, List.mem_of_getElem? (i := 920) (by decide +kernel), List.mem_of_getElem? (i := 1352) (by decide +kernel), List.mem_of_getElem? (i := 1353) (by decide +kernel)⟩
theorem lw_p91 : lw_okq (⟨"NumberFunctionsModel", "turn", "(IJ)V"⟩, 32) := ⟨⟨by decide +kernel, by decide +kernel⟩, List.mem_of_getElem? (i := 920) (by decide +kernel), List.mem_of_getElem? (i := 1356) (by decide +kernel), List.mem_of_getElem? (i := 1357) (by decide +kernel)⟩
theorem lw_p92 : lw_okq (⟨"NumberFunctionsModel", "copy", "()V"⟩, 32) := ⟨⟨by decide +kernel, by decide +kernel⟩, List.mem_of_getElem? (i := 920) (by decide +kernel), List.mem_of_getElem? (i := 1360) (by decide +kernel), List.mem_of_getElem? (i := 1361) (by decide +kernel)⟩
theorem lw_p93 : lw_okq (⟨"NumberFunctionsModel", "isAmount", "(I)Z"⟩, 32) := ⟨⟨by decide +kernel, by decide +kernel⟩, List.mem_of_getElem? (i := 920) (by decide +kernel), List.mem_of_getElem? (i := 1364) (by decide +kernel), List.mem_of_getElem? (i := 1365) (by decide +kernel)⟩
theorem lw_p94 : lw_okq (⟨"NumberFunctionsModel", "index", "()V"⟩, 32) := ⟨⟨by decide +kernel, by decide +kernel⟩, List.mem_of_getElem? (i := 920) (by decide +kernel), List.mem_of_getElem? (i := 1369) (by decide +kernel), List.mem_of_getElem? (i := 1370) (by decide +kernel)⟩
theorem lw_p95 : lw_okq (⟨"NumberFunctionsModel", "roll", "()V"⟩, 32) := ⟨⟨by decide +kernel, by decide +kernel⟩, List.mem_of_getElem? (i := 920) (by decide +kernel), List.mem_of_getElem? (i := 1373) (by decide +kernel), List.mem_of_getElem? (i := 1374) (by decide +kernel)⟩
def lw_privs_6 : List (MethodName × Nat) := [(⟨"NumberFunctionsModel", "one", "(I)V"⟩, 32), (⟨"NumberFunctionsModel", "areNumbers", "(I)Z"⟩, 32), (⟨"NumberFunctionsModel", "two", "(I)V"⟩, 32), (⟨"NumberFunctionsModel", "areWhole", "(I)Z"⟩, 32), (⟨"NumberFunctionsModel", "compare", "(I)V"⟩, 32), (⟨"NumberFunctionsModel", "putTruth", "(Z)V"⟩, 32), (⟨"NumberFunctionsModel", "bits", "(I)V"⟩, 32), (⟨"NumberFunctionsModel", "join", "(I)V"⟩, 32), (⟨"NumberFunctionsModel", "not", "()V"⟩, 32), (⟨"NumberFunctionsModel", "shift", "()V"⟩, 32), (⟨"NumberFunctionsModel", "move", "(I)V"⟩, 32), (⟨"NumberFunctionsModel", "turn", "(IJ)V"⟩, 32), (⟨"NumberFunctionsModel", "copy", "()V"⟩, 32), (⟨"NumberFunctionsModel", "isAmount", "(I)Z"⟩, 32), (⟨"NumberFunctionsModel", "index", "()V"⟩, 32), (⟨"NumberFunctionsModel", "roll", "()V"⟩, 32)]
theorem lw_r6 : ∀ q ∈ lw_privs_6, lw_okq q := List.forall_mem_cons.mpr ⟨lw_p80, List.forall_mem_cons.mpr ⟨lw_p81, List.forall_mem_cons.mpr ⟨lw_p82, List.forall_mem_cons.mpr ⟨lw_p83, List.forall_mem_cons.mpr ⟨lw_p84, List.forall_mem_cons.mpr ⟨lw_p85, List.forall_mem_cons.mpr ⟨lw_p86, List.forall_mem_cons.mpr ⟨lw_p87, List.forall_mem_cons.mpr ⟨lw_p88, List.forall_mem_cons.mpr ⟨lw_p89, List.forall_mem_cons.mpr ⟨lw_p90, List.forall_mem_cons.mpr ⟨lw_p91, List.forall_mem_cons.mpr ⟨lw_p92, List.forall_mem_cons.mpr ⟨lw_p93, List.forall_mem_cons.mpr ⟨lw_p94, List.forall_mem_cons.mpr ⟨lw_p95, fun _ h => absurd h List.not_mem_nil⟩⟩⟩⟩⟩⟩⟩⟩⟩⟩⟩⟩⟩⟩⟩⟩
def lw_privs : List (MethodName × Nat) := lw_privs_1 ++ (lw_privs_2 ++ (lw_privs_3 ++ (lw_privs_4 ++ (lw_privs_5 ++ (lw_privs_6)))))
def lw_tbl : List Cond := k2_sels lw_privs ++ tables_1
theorem lw_privs_ok : ∀ q ∈ lw_privs, lw_okq q := by
  show ∀ q ∈ lw_privs_1 ++ (lw_privs_2 ++ (lw_privs_3 ++ (lw_privs_4 ++ (lw_privs_5 ++ (lw_privs_6))))), lw_okq q
  exact List.forall_mem_append.mpr ⟨lw_r1, List.forall_mem_append.mpr ⟨lw_r2, List.forall_mem_append.mpr ⟨lw_r3, List.forall_mem_append.mpr ⟨lw_r4, List.forall_mem_append.mpr ⟨lw_r5, lw_r6⟩⟩⟩⟩⟩
end
section
/-- how many constant cells there are: 39 words, their 39 texts, 9 messages, Word.ALL, the switch table, the script -/
def ax_nC : Nat := 129
end
section
/-! THE LAYER: an abstract heap (a list of cells; a cell's number is its address there), values that name cells by these numbers,
'AW': the machine, at a place of a method's code, over a heap that holds the abstract one, comes to Q; straight stretches of code by computation ('AW.seg') -/
def ax_v (ph : Nat → Nat) : Value → Value
  | .ref k => .ref (ph k)
  | v => v
def ax_o (ph : Nat → Nat) : Option Nat → Option Nat
  | none => none
  | some k => some (ph k)
def ax_a (ph : Nat → Nat) : vp_A → vp_A
  | (n, .inr (.inr (.inr (.inr f)))) => (n, .inr (.inr (.inr (.inr (fun j => ax_o ph (f j))))))
  | a => a
def ax_e (ph ca : Nat → Nat) : va_E → va_E
  | .inl (t, a) => .inl (ca t, ax_a ph a)
  | .inr (ci, fs) => .inr (ci, fs.map (ax_v ph))
/-- (classes' numbers and slots; addresses; array classes' numbers; where new cells begin; the heap at the law's start); the first ax_nC cells are constants, that nobody writes -/
abbrev ax_G : Type := va_G × (Nat → Nat) × (Nat → Nat) × Nat × Heap
/-- the classes; the array types; the static fields (class, name, descriptor, value); the tables' words; the static arrays (cell, type, length, contents); castable pairs; declared methods; classes with arrays over them; text constants (class, entry, text, cell) -/
abbrev ax_V : Type := List vw_C × List FieldType × List (String × String × String × Value) × List Cond × List (Nat × FieldType × Nat × (Nat → Value)) × List (String × String) × List MethodName × List String × List (String × Nat × String × Nat)
abbrev ax_V.cl (V : ax_V) : List vw_C := V.1
abbrev ax_V.tl (V : ax_V) : List FieldType := V.2.1
abbrev ax_V.zs (V : ax_V) : List (String × String × String × Value) := V.2.2.1
abbrev ax_V.ts (V : ax_V) : List Cond := V.2.2.2.1
abbrev ax_V.ta (V : ax_V) : List (Nat × FieldType × Nat × (Nat → Value)) := V.2.2.2.2.1
abbrev ax_V.ct (V : ax_V) : List (String × String) := V.2.2.2.2.2.1
abbrev ax_V.dc (V : ax_V) : List MethodName := V.2.2.2.2.2.2.1
abbrev ax_V.ao (V : ax_V) : List String := V.2.2.2.2.2.2.2.1
abbrev ax_V.sr (V : ax_V) : List (String × Nat × String × Nat) := V.2.2.2.2.2.2.2.2
/-- a cell of which the abstract heap says nothing (a static array's): a float array -/
def ax_nf : va_E → Bool
  | .inl (_, _, .inr (.inr (.inl _))) => false
  | _ => true
def ax_dm : va_E := .inl (0, 0, .inr (.inr (.inl (fun _ => 0))))
abbrev ax_G.ph (G : ax_G) : Nat → Nat := G.2.1
abbrev ax_G.ca (G : ax_G) : Nat → Nat := G.2.2.1
abbrev ax_G.bs (G : ax_G) : Nat := G.2.2.2.1
abbrev ax_G.H0 (G : ax_G) : Heap := G.2.2.2.2
def ax_H (V : ax_V) (G : ax_G) (h : List va_E) (H : Heap) : Prop :=
  (∀ (k : Nat) (c : va_E), h[k]? = some c → ax_nf c = true → va_at G.1 V.cl (G.ph k, ax_e G.ph G.ca c) H) ∧ ax_nC ≤ h.length ∧ H.size = G.bs + (h.length - ax_nC) ∧ ∀ q : Nat, q < G.bs → H[q]? = G.H0[q]?
/-- the words' addresses differ; new cells lie one behind the other; constants lie before them -/
def ax_I (G : ax_G) : Prop := (∀ i j : Nat, i < 39 → j < 39 → G.ph i = G.ph j → i = j) ∧ (∀ k : Nat, ax_nC ≤ k → G.ph k = G.bs + (k - ax_nC)) ∧ ∀ k : Nat, k < ax_nC → G.ph k < G.bs
theorem ax_I.ne {G : ax_G} (h : ax_I G) {j k : Nat} (hk : ax_nC ≤ k) (e : G.ph j = G.ph k) : j = k := by
  rcases Nat.lt_or_ge j ax_nC with q | q
  · have h1 := h.2.2 j q
    rw [e, h.2.1 k hk] at h1
    omega
  · rw [h.2.1 j q, h.2.1 k hk] at e
    omega
/-- an instance field and its slot -/
def ax_Fd (U : State) (q : String × String × String × Bool) (i : Nat) : Prop := ∃ (cf : ClassId) (kf : Class) (fi : Nat) (fd : Field), U.fieldFound? q.1 q.2.1 q.2.2.1 = some (cf, kf, fi, fd) ∧ fd.slot = i ∧ fd.isStatic = false
theorem ax_Fd.moved {u U : State} {q : String × String × String × Bool} {i : Nat} (hvm : u.vm.Alike U.vm) (h : ax_Fd u q i) : ax_Fd U q i := by
  obtain ⟨cf, kf, fi, fd, hi, hs⟩ := h
  obtain ⟨kf', hi', -⟩ := State.fieldFound?_setVm (s := u) hvm hi
  exact ⟨cf, kf', fi, fd, by simpa only [State.fieldFound?, State.vm_setVm] using hi', hs⟩
def ax_K (V : ax_V) (G : ax_G) (U : State) : Prop :=
  (∀ (c : Nat) (q : vw_C), V.cl[c]? = some q → (∀ k, k < q.2.2 → ax_Fd U (q.2.1 k) (G.1.2 c k)) ∧ ClassAt U q.1 (G.1.1 c)) ∧ (∀ (k : Nat) (ty : FieldType), V.tl[k]? = some ty → ArrOfT U (G.ca k) ty ∧ va_RA U (G.ca k) ty) ∧
  (∀ z ∈ V.zs, va_Z z.1 z.2.1 z.2.2.1 (ax_v G.ph z.2.2.2) (fun q => G.bs ≤ q) U G.H0) ∧ (∀ z ∈ V.ta, va_T z.2.1 (G.ph z.1) z.2.2.1 (fun j => ax_v G.ph (z.2.2.2 j)) (fun q => G.bs ≤ q) U G.H0) ∧
  (∀ z ∈ V.ct, va_Nw (.castable z.1 z.2) U) ∧ (∀ z ∈ V.dc, va_Nw (.declares z) U) ∧ (∀ z ∈ V.ao, va_AO z U) ∧ ∀ z ∈ V.sr, vk_R z.1 z.2.1 z.2.2.1 (G.ph z.2.2.2) U
theorem ax_K.moved {V : ax_V} {G : ax_G} {u U : State} (hW : u.WarmedH U.vm) (h : ax_K V G u) : ax_K V G U :=
  have hvm := hW.alike
  ⟨fun c q hq => ⟨fun k hk => ((h.1 c q hq).1 k hk).moved hvm, classAt_moved hvm (h.1 c q hq).2⟩, fun k ty hk => ⟨arrOfT_moved hvm (h.2.1 k ty hk).1, (h.2.1 k ty hk).2.moved hvm⟩, fun z hz => (h.2.2.1 z hz).moved hvm, fun z hz => (h.2.2.2.1 z hz).moved hvm, fun z hz => (h.2.2.2.2.1 z hz).warmC hW, fun z hz => (h.2.2.2.2.2.1 z hz).warmD hW, fun z hz => (h.2.2.2.2.2.2.1 z hz).moved hvm, fun z hz => (h.2.2.2.2.2.2.2 z hz).warm hW⟩
theorem ax_K.u {V : ax_V} {G : ax_G} {U : State} (h : ax_K V G U) {c : Nat} {q : vw_C} (hq : V.cl[c]? = some q) : u_Kn U q.1 q.2.1 q.2.2 (G.1.1 c) (G.1.2 c) :=
  ⟨fun k hk => by
    obtain ⟨cf, kf, fi, fd, hi, hs, -⟩ := (h.1 c q hq).1 k hk
    exact ⟨cf, kf, fi, fd, hi, hs⟩, (h.1 c q hq).2⟩
theorem ax_K.K {V : ax_V} {G : ax_G} {U : State} (h : ax_K V G U) : va_K G.1 V.cl [] U := ⟨fun c q hq => h.u hq, fun k q hq => by simp at hq⟩
theorem ax_K.K1 {V : ax_V} {G : ax_G} {U : State} (h : ax_K V G U) {t : Nat} {ty : FieldType} (ht : V.tl[t]? = some ty) : va_K G.1 V.cl [(G.ca t, ty)] U :=
  ⟨fun c q hq => h.u hq, fun k q hq => by
    have hz : k < 1 := (List.getElem?_eq_some_iff.mp hq).1
    rw [show k = 0 by omega] at hq
    cases hq
    exact h.2.1 t ty ht⟩
theorem ax_P1 {V : ax_V} {G : ax_G} {h : List va_E} {H : Heap} (hH : ax_H V G h H) {k : Nat} {c : va_E} (hk : h[k]? = some c) (hc : ax_nf c = true) : va_P G.1 V.cl [(G.ph k, ax_e G.ph G.ca c)] H := fun j q hq => by
  have hz : j < 1 := (List.getElem?_eq_some_iff.mp hq).1
  rw [show j = 0 by omega] at hq
  cases hq
  exact hH.1 k c hk hc
theorem ax_bsle {G : ax_G} (hI : ax_I G) {a : Nat} (ha : ax_nC ≤ a) : G.bs ≤ G.ph a := by
  rw [hI.2.1 a ha]
  exact Nat.le_add_right _ _
/-- a cell is written -/
theorem ax_set {V : ax_V} {G : ax_G} {h : List va_E} {H H1 : Heap} (hI : ax_I G) (hH : ax_H V G h H) {k : Nat} {c c' : va_E} (hk : h[k]? = some c) (hna : ax_nC ≤ k) (hat : ax_nf c' = true → va_at G.1 V.cl (G.ph k, ax_e G.ph G.ca c') H1) (z : H1.size = H.size) (oq : ∀ q : Nat, q ≠ G.ph k → H1[q]? = H[q]?) : ax_H V G (h.set k c') H1 := by
  have hlt : k < h.length := (List.getElem?_eq_some_iff.mp hk).1
  refine ⟨fun j d hj hd => ?_, by rw [List.length_set]; exact hH.2.1, by rw [List.length_set, z]; exact hH.2.2.1, fun q hq => ?_⟩
  · by_cases e : j = k
    · subst e
      rw [List.getElem?_set_self hlt] at hj
      cases hj
      exact hat hd
    · rw [List.getElem?_set_ne (Ne.symm e)] at hj
      exact (hH.1 j d hj hd).kept (oq _ (fun q => e (hI.ne hna q)))
  · rw [oq q (fun e => Nat.not_lt.mpr (ax_bsle hI hna) (e ▸ hq))]
    exact hH.2.2.2 q hq
/-- a cell is made -/
theorem ax_new {V : ax_V} {G : ax_G} {h : List va_E} {H H1 : Heap} (hI : ax_I G) (hH : ax_H V G h H) {c : va_E} (hat : va_at G.1 V.cl (H.size, ax_e G.ph G.ca c) H1) (z : H1.size = H.size + 1) (oq : ∀ q : Nat, q < H.size → H1[q]? = H[q]?) : ax_H V G (h ++ [c]) H1 ∧ G.ph h.length = H.size := by
  have hn : G.ph h.length = H.size := by rw [hI.2.1 _ hH.2.1, hH.2.2.1]
  refine ⟨⟨fun j d hj hd => ?_, by rw [List.length_append]; exact Nat.le_trans hH.2.1 (Nat.le_add_right _ _), ?_, fun q hq => ?_⟩, hn⟩
  · rcases Nat.lt_or_ge j h.length with e | e
    · rw [List.getElem?_append_left e] at hj
      have ha := hH.1 j d hj hd
      exact ha.kept (oq _ ha.lt)
    · rw [List.getElem?_append_right e] at hj
      have hz : j - h.length < 1 := (List.getElem?_eq_some_iff.mp hj).1
      have e2 : j = h.length := by omega
      subst e2
      rw [Nat.sub_self] at hj
      cases hj
      rw [hn]
      exact hat
  · rw [List.length_append, z, hH.2.2.1]
    have := hH.2.1
    show _ = _ + (h.length + 1 - _)
    omega
  · rw [oq q (by rw [hH.2.2.1]; omega)]
    exact hH.2.2.2 q hq
def ax_lv (ph : Nat → Nat) (lv : List (Nat × Value)) : List (Nat × Value) := lv.map (fun q => (q.1, ax_v ph q.2))
theorem ax_cat (ph : Nat → Nat) (v : Value) : (ax_v ph v).category = v.category := by cases v <;> rfl
section AX
variable {p : Program} {l : Launch} {e : Env} {R : Room} {s : State} {m : MethodId} {args : Array Value} {below : List Frame} {meth : Method} {c : Code}
/-- the machine, at 'pc' with these locals and stack, over every heap that holds h, comes to Q -/
def AW (p : Program) (l : Launch) (e : Env) (R : Room) (s : State) (m : MethodId) (args : Array Value) (below : List Frame) (meth : Method) (c : Code) (V : ax_V) (G : ax_G) (nL : Nat) (h : List va_E) (cells slots : Nat) (Q : State → Prop) (pc : Nat) (lv : List (Nat × Value)) (st : List Value) : Prop :=
  ∀ (H : Heap) (locs : List Loc) (ls : Array Slot), ax_H V G h H → (∀ q ∈ locs, G.bs ≤ q.base) → lv_has ls nL (ax_lv G.ph lv) → W p l e R s m args below meth c H locs cells slots Q (F0 m pc ls (st.map (ax_v G.ph)))
/-- which field (its number in class ci's objects) the pool entry 'idx' of the class 'own' names -/
def ax_F (V : ax_V) (own : String) (fl : Nat → Nat → Option Nat) : Prop := ∀ idx ci k : Nat, fl idx ci = some k → ∃ (C : String) (T : u_T) (N : Nat) (ref : String), V.cl[ci]? = some (C, T, N) ∧ k < N ∧ Cond.fieldLink own idx ref (T k).2.1 (T k).2.2.1 ∈ V.ts ∧ (ref = (T k).1 ∨ Cond.sameField ref (T k).1 (T k).2.1 (T k).2.2.1 ∈ V.ts)
theorem ax_same {V : ax_V} {s : State} {args : Array Value} (ht : ∀ w ∈ V.ts, w.before args s = true) {ref o n d : String} (h : ref = o ∨ Cond.sameField ref o n d ∈ V.ts) : ∀ x, s.fieldFound? o n d = some x → s.fieldFound? ref n d = some x := by
  rcases h with rfl | h
  · exact fun _ q => q
  · exact fun x q => u_same (ht _ h) x q
end AX
end
section
/-! STRAIGHT STRETCHES: 'ax_i' does one instruction on locals, stack and abstract heap; 'ax_run' a list of them -/
def ax_l : List (Nat × Value) → Nat → Option Value
  | [], _ => none
  | q :: r, n => bif Nat.beq q.1 n then some q.2 else ax_l r n
theorem ax_l_mem {n : Nat} {v : Value} : ∀ {lv : List (Nat × Value)}, ax_l lv n = some v → (n, v) ∈ lv
  | [], h => by cases h
  | q :: r, h => by
    unfold ax_l at h
    cases hb : Nat.beq q.1 n with
    | true =>
      rw [hb] at h
      have h1 := Nat.eq_of_beq_eq_true hb
      cases h
      subst h1
      exact List.mem_cons_self
    | false =>
      rw [hb] at h
      exact List.mem_cons_of_mem _ (ax_l_mem h)
theorem ax_l_at {ph : Nat → Nat} {ls : Array Slot} {nL n : Nat} {v : Value} {lv : List (Nat × Value)} (h : ax_l lv n = some v) (hv : lv_has ls nL (ax_lv ph lv)) : ls[n]? = some (.val (ax_v ph v)) :=
  hv.2.2 (n, ax_v ph v) (List.mem_map.mpr ⟨(n, v), ax_l_mem h, rfl⟩)
/-- the locals without what a store of one word (two words) at i overwrites -/
def ax_rm {α : Type} (i : Nat) : List (Nat × Value) → (List (Nat × Value) → α) → α
  | [], k => k []
  | q :: r, k => bif (!(q.1 == i) && !(q.1 + 1 == i && q.2.category == 2)) then ax_rm i r (fun r' => k (q :: r')) else ax_rm i r k
def ax_rm2 {α : Type} (i : Nat) : List (Nat × Value) → (List (Nat × Value) → α) → α
  | [], k => k []
  | q :: r, k => bif (!(q.1 == i) && (!(q.1 == i + 1) && !(q.1 + 1 == i && q.2.category == 2))) then ax_rm2 i r (fun r' => k (q :: r')) else ax_rm2 i r k
theorem ax_rm_eq {α : Type} (i : Nat) : ∀ (lv : List (Nat × Value)) (k : List (Nat × Value) → α), ax_rm i lv k = k (lv.filter (fun q => !(q.1 == i) && !(q.1 + 1 == i && q.2.category == 2)))
  | [], k => rfl
  | q :: r, k => by
    unfold ax_rm
    rw [List.filter_cons, ax_rm_eq, ax_rm_eq]
    cases (!(q.1 == i) && !(q.1 + 1 == i && q.2.category == 2)) <;> rfl
theorem ax_rm2_eq {α : Type} (i : Nat) : ∀ (lv : List (Nat × Value)) (k : List (Nat × Value) → α), ax_rm2 i lv k = k (lv.filter (fun q => !(q.1 == i) && (!(q.1 == i + 1) && !(q.1 + 1 == i && q.2.category == 2))))
  | [], k => rfl
  | q :: r, k => by
    unfold ax_rm2
    rw [List.filter_cons, ax_rm2_eq, ax_rm2_eq]
    cases (!(q.1 == i) && (!(q.1 == i + 1) && !(q.1 + 1 == i && q.2.category == 2))) <;> rfl
theorem ax_flt (ph : Nat → Nat) (f : Nat → Nat → Bool) (lv : List (Nat × Value)) : (ax_lv ph lv).filter (fun q => f q.1 q.2.category) = ax_lv ph (lv.filter (fun q => f q.1 q.2.category)) := by
  unfold ax_lv
  rw [List.filter_map]
  congr 1
  apply List.filter_congr
  intro q _
  show f q.1 (ax_v ph q.2).category = _
  rw [ax_cat]
theorem ax_fl1 (ph : Nat → Nat) (i : Nat) (v : Value) (lv : List (Nat × Value)) : (i, ax_v ph v) :: (ax_lv ph lv).filter (fun q => !(q.1 == i) && !(q.1 + 1 == i && q.2.category == 2)) = ax_lv ph ((i, v) :: lv.filter (fun q => !(q.1 == i) && !(q.1 + 1 == i && q.2.category == 2))) :=
  congrArg (List.cons _) (ax_flt ph (fun a b => !(a == i) && !(a + 1 == i && b == 2)) lv)
theorem ax_fl2 (ph : Nat → Nat) (i : Nat) (v : Value) (lv : List (Nat × Value)) : (i, ax_v ph v) :: (ax_lv ph lv).filter (fun q => !(q.1 == i) && (!(q.1 == i + 1) && !(q.1 + 1 == i && q.2.category == 2))) = ax_lv ph ((i, v) :: lv.filter (fun q => !(q.1 == i) && (!(q.1 == i + 1) && !(q.1 + 1 == i && q.2.category == 2)))) :=
  congrArg (List.cons _) (ax_flt ph (fun a b => !(a == i) && (!(a == i + 1) && !(a + 1 == i && b == 2))) lv)
def ax_f4 {α : Type} (i : Fin 4) (k : Nat → α) : α := match i with
  | 0 => k 0
  | 1 => k 1
  | 2 => k 2
  | 3 => k 3
theorem ax_f4_eq {α : Type} (i : Fin 4) (k : Nat → α) : ax_f4 i k = k i.val := by
  match i with
  | 0 => rfl
  | 1 => rfl
  | 2 => rfl
  | 3 => rfl
theorem ax_bif {α : Type} {b : Bool} {x : Option α} {r : α} (h : (bif b then x else none) = some r) : b = true ∧ x = some r := by
  cases b
  · cases h
  · exact ⟨rfl, h⟩
theorem ax_len {α : Type} {len n : Nat} {x : Option α} {r : α} (h : (bif Nat.beq len n then x else none) = some r) : len = n ∧ x = some r :=
  ⟨Nat.eq_of_beq_eq_true (ax_bif h).1, (ax_bif h).2⟩
/-- what a field of this type takes as it stands -/
def ax_fit : FieldType → Value → Bool
  | .int, .int _ => true
  | .long, .long _ => true
  | .object _, .ref _ => true
  | .object _, .null => true
  | .array _, .ref _ => true
  | .array _, .null => true
  | _, _ => false
def ax_i1 {α : Type} (st : List Value) (k : Int32 → List Value → Option α) : Option α := match st with
  | .int x :: r => k x r
  | _ => none
theorem ax_i1_ok {α : Type} {st : List Value} {k : Int32 → List Value → Option α} {z : α} (h : ax_i1 st k = some z) : ∃ (x : Int32) (r : List Value), st = .int x :: r ∧ k x r = some z := by
  unfold ax_i1 at h
  split at h
  · exact ⟨_, _, rfl, h⟩
  · cases h
def ax_ii {α : Type} (st : List Value) (k : Int32 → Int32 → List Value → Option α) : Option α := match st with
  | .int y :: .int x :: r => k x y r
  | _ => none
theorem ax_ii_ok {α : Type} {st : List Value} {k : Int32 → Int32 → List Value → Option α} {z : α} (h : ax_ii st k = some z) : ∃ (x : Int32) (y : Int32) (r : List Value), st = .int y :: .int x :: r ∧ k x y r = some z := by
  unfold ax_ii at h
  split at h
  · exact ⟨_, _, _, rfl, h⟩
  · cases h
def ax_l1 {α : Type} (st : List Value) (k : Int64 → List Value → Option α) : Option α := match st with
  | .long x :: r => k x r
  | _ => none
theorem ax_l1_ok {α : Type} {st : List Value} {k : Int64 → List Value → Option α} {z : α} (h : ax_l1 st k = some z) : ∃ (x : Int64) (r : List Value), st = .long x :: r ∧ k x r = some z := by
  unfold ax_l1 at h
  split at h
  · exact ⟨_, _, rfl, h⟩
  · cases h
def ax_ll {α : Type} (st : List Value) (k : Int64 → Int64 → List Value → Option α) : Option α := match st with
  | .long y :: .long x :: r => k x y r
  | _ => none
theorem ax_ll_ok {α : Type} {st : List Value} {k : Int64 → Int64 → List Value → Option α} {z : α} (h : ax_ll st k = some z) : ∃ (x : Int64) (y : Int64) (r : List Value), st = .long y :: .long x :: r ∧ k x y r = some z := by
  unfold ax_ll at h
  split at h
  · exact ⟨_, _, _, rfl, h⟩
  · cases h
def ax_li {α : Type} (st : List Value) (k : Int64 → Int32 → List Value → Option α) : Option α := match st with
  | .int y :: .long x :: r => k x y r
  | _ => none
theorem ax_li_ok {α : Type} {st : List Value} {k : Int64 → Int32 → List Value → Option α} {z : α} (h : ax_li st k = some z) : ∃ (x : Int64) (y : Int32) (r : List Value), st = .int y :: .long x :: r ∧ k x y r = some z := by
  unfold ax_li at h
  split at h
  · exact ⟨_, _, _, rfl, h⟩
  · cases h
def ax_any {α : Type} (o : Option Value) (k : Value → Option α) : Option α := match o with
  | some v => k v
  | none => none
theorem ax_any_ok {α : Type} {o : Option Value} {k : Value → Option α} {z : α} (h : ax_any o k = some z) : ∃ v, o = some v ∧ k v = some z := by
  unfold ax_any at h
  split at h
  · exact ⟨_, rfl, h⟩
  · cases h
def ax_isI {α : Type} (v : Value) (k : Int32 → Option α) : Option α := match v with
  | .int x => k x
  | _ => none
theorem ax_isI_ok {α : Type} {v : Value} {k : Int32 → Option α} {z : α} (h : ax_isI v k = some z) : ∃ x, v = .int x ∧ k x = some z := by
  unfold ax_isI at h
  split at h
  · exact ⟨_, rfl, h⟩
  · cases h
def ax_isL {α : Type} (v : Value) (k : Int64 → Option α) : Option α := match v with
  | .long x => k x
  | _ => none
theorem ax_isL_ok {α : Type} {v : Value} {k : Int64 → Option α} {z : α} (h : ax_isL v k = some z) : ∃ x, v = .long x ∧ k x = some z := by
  unfold ax_isL at h
  split at h
  · exact ⟨_, rfl, h⟩
  · cases h
/-- a reference or null -/
def ax_isR {α : Type} (v : Value) (kr : Nat → Option α) (kn : Option α) : Option α := match v with
  | .ref x => kr x
  | .null => kn
  | _ => none
theorem ax_isR_ok {α : Type} {v : Value} {kr : Nat → Option α} {kn : Option α} {z : α} (h : ax_isR v kr kn = some z) : (∃ x, v = .ref x ∧ kr x = some z) ∨ (v = .null ∧ kn = some z) := by
  unfold ax_isR at h
  split at h
  · exact Or.inl ⟨_, rfl, h⟩
  · exact Or.inr ⟨rfl, h⟩
  · cases h
def ax_v1 {α : Type} (st : List Value) (k : Value → List Value → Option α) : Option α := match st with
  | v :: r => k v r
  | _ => none
theorem ax_v1_ok {α : Type} {st : List Value} {k : Value → List Value → Option α} {z : α} (h : ax_v1 st k = some z) : ∃ (v : Value) (r : List Value), st = v :: r ∧ k v r = some z := by
  unfold ax_v1 at h
  split at h
  · exact ⟨_, _, rfl, h⟩
  · cases h
def ax_c1 (v : Value) : Bool := match v with
  | .int _ => true
  | .ref _ => true
  | .null => true
  | _ => false
theorem ax_c1_ok {ph : Nat → Nat} {v : Value} (h : ax_c1 v = true) : (ax_v ph v).category = 1 := by
  cases v <;> first | rfl | cases h
def ax_c2 (v : Value) : Bool := match v with
  | .long _ => true
  | _ => false
theorem ax_c2_ok {ph : Nat → Nat} {v : Value} (h : ax_c2 v = true) : (ax_v ph v).category = 2 := by
  cases v <;> first | rfl | cases h
/-- an object, its class's number -/
def ax_ob {α : Type} (o : Option va_E) (k : Nat → List Value → Option α) : Option α := match o with
  | some (.inr q) => k q.1 q.2
  | _ => none
theorem ax_ob_ok {α : Type} {o : Option va_E} {k : Nat → List Value → Option α} {z : α} (h : ax_ob o k = some z) : ∃ ci fs, o = some (.inr (ci, fs)) ∧ k ci fs = some z := by
  unfold ax_ob at h
  split at h
  · exact ⟨_, _, rfl, h⟩
  · cases h
abbrev ax_pool : Type := (Nat → Nat → Option Nat) × (Nat → Option Value) × Bool
def ax_fld {α : Type} (o : Option Nat) (k : Nat → Option α) : Option α := match o with
  | some q => k q
  | none => none
theorem ax_fld_ok {α : Type} {o : Option Nat} {k : Nat → Option α} {z : α} (h : ax_fld o k = some z) : ∃ i, o = some i ∧ k i = some z := by
  unfold ax_fld at h
  split at h
  · exact ⟨_, rfl, h⟩
  · cases h
theorem ax_blt {a b : Nat} (h : Nat.blt a b = true) : a < b := Nat.le_of_ble_eq_true h
def ax_i {α : Type} (nL : Nat) (pl : ax_pool) (q : Instr × Nat) (lv : List (Nat × Value)) (st : List Value) (h : List va_E) (k : List (Nat × Value) → List Value → List va_E → Option α) : Option α :=
  match q.1 with
  | .iconst n => bif Nat.beq q.2 1 then k lv (.int (Int32.ofInt n) :: st) h else none
  | .bipush n => bif Nat.beq q.2 2 then k lv (.int (Int8.ofInt n).toInt32 :: st) h else none
  | .sipush n => bif Nat.beq q.2 3 then k lv (.int (Int16.ofInt n).toInt32 :: st) h else none
  | .lconst n => bif Nat.beq q.2 1 then k lv (.long (Int64.ofNat n.val) :: st) h else none
  | .aconst_null => bif Nat.beq q.2 1 then k lv (.null :: st) h else none
  | .iload_n n => bif Nat.beq q.2 1 then ax_f4 n fun i => ax_any (ax_l lv i) fun v => ax_isI v fun x => k lv (.int x :: st) h else none
  | .iload i => bif Nat.beq q.2 2 then ax_any (ax_l lv i) fun v => ax_isI v fun x => k lv (.int x :: st) h else none
  | .lload_n n => bif Nat.beq q.2 1 then ax_f4 n fun i => ax_any (ax_l lv i) fun v => ax_isL v fun x => k lv (.long x :: st) h else none
  | .lload i => bif Nat.beq q.2 2 then ax_any (ax_l lv i) fun v => ax_isL v fun x => k lv (.long x :: st) h else none
  | .aload_n n => bif Nat.beq q.2 1 then ax_f4 n fun i => ax_any (ax_l lv i) fun v => ax_isR v (fun x => k lv (.ref x :: st) h) (k lv (.null :: st) h) else none
  | .aload i => bif Nat.beq q.2 2 then ax_any (ax_l lv i) fun v => ax_isR v (fun x => k lv (.ref x :: st) h) (k lv (.null :: st) h) else none
  | .istore_n n => bif Nat.beq q.2 1 then ax_f4 n fun i => ax_i1 st fun x r => bif Nat.blt (i) nL then ax_rm i lv (fun lv' => k ((i, .int x) :: lv') r h) else none else none
  | .istore i => bif Nat.beq q.2 2 then ax_i1 st fun x r => bif Nat.blt (i) nL then ax_rm i lv (fun lv' => k ((i, .int x) :: lv') r h) else none else none
  | .lstore_n n => bif Nat.beq q.2 1 then ax_f4 n fun i => ax_l1 st fun x r => bif Nat.blt (i + 1) nL then ax_rm2 i lv (fun lv' => k ((i, .long x) :: lv') r h) else none else none
  | .lstore i => bif Nat.beq q.2 2 then ax_l1 st fun x r => bif Nat.blt (i + 1) nL then ax_rm2 i lv (fun lv' => k ((i, .long x) :: lv') r h) else none else none
  | .astore_n n => bif Nat.beq q.2 1 then ax_f4 n fun i => ax_v1 st fun v r => bif Nat.blt i nL then ax_isR v (fun x => ax_rm i lv (fun lv' => k ((i, .ref x) :: lv') r h)) (ax_rm i lv (fun lv' => k ((i, .null) :: lv') r h)) else none else none
  | .astore i => bif Nat.beq q.2 2 then ax_v1 st fun v r => bif Nat.blt i nL then ax_isR v (fun x => ax_rm i lv (fun lv' => k ((i, .ref x) :: lv') r h)) (ax_rm i lv (fun lv' => k ((i, .null) :: lv') r h)) else none else none
  | .iinc i n => bif Nat.beq q.2 3 then ax_any (ax_l lv i) fun v => ax_isI v fun x => bif Nat.blt i nL then ax_rm i lv (fun lv' => k ((i, .int (x + Int32.ofInt n)) :: lv') st h) else none else none
  | .iadd => bif Nat.beq q.2 1 then ax_ii st fun x y r => k lv (.int (x + y) :: r) h else none
  | .isub => bif Nat.beq q.2 1 then ax_ii st fun x y r => k lv (.int (x - y) :: r) h else none
  | .imul => bif Nat.beq q.2 1 then ax_ii st fun x y r => k lv (.int (x * y) :: r) h else none
  | .iand => bif Nat.beq q.2 1 then ax_ii st fun x y r => k lv (.int (x &&& y) :: r) h else none
  | .ior => bif Nat.beq q.2 1 then ax_ii st fun x y r => k lv (.int (x ||| y) :: r) h else none
  | .ixor => bif Nat.beq q.2 1 then ax_ii st fun x y r => k lv (.int (x ^^^ y) :: r) h else none
  | .ishl => bif Nat.beq q.2 1 then ax_ii st fun x y r => k lv (.int (x <<< (y &&& 31)) :: r) h else none
  | .ishr => bif Nat.beq q.2 1 then ax_ii st fun x y r => k lv (.int (x >>> (y &&& 31)) :: r) h else none
  | .iushr => bif Nat.beq q.2 1 then ax_ii st fun x y r => k lv (.int ((x.toUInt32 >>> (y.toUInt32 &&& Int32.toUInt32 31)).toInt32) :: r) h else none
  | .ineg => bif Nat.beq q.2 1 then ax_i1 st fun x r => k lv (.int (-x) :: r) h else none
  | .ladd => bif Nat.beq q.2 1 then ax_ll st fun x y r => k lv (.long (x + y) :: r) h else none
  | .lsub => bif Nat.beq q.2 1 then ax_ll st fun x y r => k lv (.long (x - y) :: r) h else none
  | .lmul => bif Nat.beq q.2 1 then ax_ll st fun x y r => k lv (.long (x * y) :: r) h else none
  | .land => bif Nat.beq q.2 1 then ax_ll st fun x y r => k lv (.long (x &&& y) :: r) h else none
  | .lor => bif Nat.beq q.2 1 then ax_ll st fun x y r => k lv (.long (x ||| y) :: r) h else none
  | .lxor => bif Nat.beq q.2 1 then ax_ll st fun x y r => k lv (.long (x ^^^ y) :: r) h else none
  | .lneg => bif Nat.beq q.2 1 then ax_l1 st fun x r => k lv (.long (-x) :: r) h else none
  | .lshl => bif Nat.beq q.2 1 then ax_li st fun x y r => k lv (.long (x <<< (y.toInt64 &&& 63)) :: r) h else none
  | .lshr => bif Nat.beq q.2 1 then ax_li st fun x y r => k lv (.long (x >>> (y.toInt64 &&& 63)) :: r) h else none
  | .lushr => bif Nat.beq q.2 1 then ax_li st fun x y r => k lv (.long ((x.toUInt64 >>> (y.toInt64.toUInt64 &&& Int64.toUInt64 63)).toInt64) :: r) h else none
  | .lcmp => bif Nat.beq q.2 1 then ax_ll st fun x y r => k lv (.int (lg_cmp x y) :: r) h else none
  | .i2l => bif Nat.beq q.2 1 then ax_i1 st fun x r => k lv (.long x.toInt64 :: r) h else none
  | .l2i => bif Nat.beq q.2 1 then ax_l1 st fun x r => k lv (.int x.toInt32 :: r) h else none
  | .i2b => bif Nat.beq q.2 1 then ax_i1 st fun x r => k lv (.int x.toInt8.toInt32 :: r) h else none
  | .dup => bif Nat.beq q.2 1 then ax_v1 st fun v r => bif ax_c1 v then k lv (v :: v :: r) h else none else none
  | .pop => bif Nat.beq q.2 1 then ax_v1 st fun v r => bif ax_c1 v then k lv r h else none else none
  | .dup_x1 => bif Nat.beq q.2 1 then ax_v1 st fun v r => ax_v1 r fun u r => bif ax_c1 v && ax_c1 u then k lv (v :: u :: v :: r) h else none else none
  | .dup_x2 => bif Nat.beq q.2 1 then ax_v1 st fun v r => ax_v1 r fun u r => ax_v1 r fun w r => bif ax_c1 v && (ax_c1 u && ax_c1 w) then k lv (v :: u :: w :: v :: r) h else none else none
  | .dup2 => bif Nat.beq q.2 1 then ax_v1 st fun v r => bif ax_c2 v then k lv (v :: v :: r) h else ax_v1 r fun u r => bif ax_c1 v && ax_c1 u then k lv (v :: u :: v :: u :: r) h else none else none
  | .getfield idx => bif Nat.beq q.2 3 then ax_v1 st fun v r => ax_isR v (fun a => ax_ob (h[a]?) fun ci fs => ax_fld (pl.1 idx ci) fun i => ax_any (fs[i]?) fun u => k lv (u :: r) h) none else none
  | .ldc idx => bif Nat.beq q.2 2 then ax_any (pl.2.1 idx) fun v => ax_isI v fun x => k lv (.int x :: st) h else none
  | .ldc2_w idx => bif Nat.beq q.2 3 then ax_any (pl.2.1 idx) fun v => ax_isL v fun x => k lv (.long x :: st) h else none
  | _ => none
def ax_PL (V : ax_V) (own : String) (kl : Nat → Option Value) : Prop := (∀ (idx : Nat) (x : Int32), kl idx = some (.int x) → Cond.constant own idx x ∈ V.ts) ∧ ∀ (idx : Nat) (x : Int64), kl idx = some (.long x) → Cond.constantLong own idx x ∈ V.ts
def ax_X (p : Program) (m : MethodId) (meth : Method) (c : Code) (s : State) (args : Array Value) (V : ax_V) (G : ax_G) (cc : ByteArray) (nL : Nat) (own : String) (pl : ax_pool) (ret : Option FieldType) : Prop :=
  p.tables.exec = Jvm.exec ∧ c.code = cc ∧ c.maxLocals = nL ∧ s.vm.findClass own = some m.cls ∧ (∀ w ∈ V.ts, w.before args s = true) ∧ ax_K V G s ∧ ax_I G ∧ ax_F V own pl.1 ∧ ax_PL V own pl.2.1 ∧ GoodIn V.ts V.ts ∧ meth.locks = false ∧ meth.sig.returnType = ret ∧ (pl.2.2 = true → meth.name = "<init>")
section AXX
variable {p : Program} {s : State} {m : MethodId} {args : Array Value} {meth : Method} {c : Code} {V : ax_V} {G : ax_G} {cc : ByteArray} {nL : Nat} {own : String} {pl : ax_pool} {ret : Option FieldType}
theorem ax_X.x (X : ax_X p m meth c s args V G cc nL own pl ret) : p.tables.exec = Jvm.exec := X.1
theorem ax_X.b (X : ax_X p m meth c s args V G cc nL own pl ret) : c.code = cc := X.2.1
theorem ax_X.ml (X : ax_X p m meth c s args V G cc nL own pl ret) : c.maxLocals = nL := X.2.2.1
theorem ax_X.ow (X : ax_X p m meth c s args V G cc nL own pl ret) : s.vm.findClass own = some m.cls := X.2.2.2.1
theorem ax_X.ts (X : ax_X p m meth c s args V G cc nL own pl ret) : ∀ w ∈ V.ts, w.before args s = true := X.2.2.2.2.1
theorem ax_X.k (X : ax_X p m meth c s args V G cc nL own pl ret) : ax_K V G s := X.2.2.2.2.2.1
theorem ax_X.i (X : ax_X p m meth c s args V G cc nL own pl ret) : ax_I G := X.2.2.2.2.2.2.1
theorem ax_X.f (X : ax_X p m meth c s args V G cc nL own pl ret) : ax_F V own pl.1 := X.2.2.2.2.2.2.2.1
theorem ax_X.pk (X : ax_X p m meth c s args V G cc nL own pl ret) : ax_PL V own pl.2.1 := X.2.2.2.2.2.2.2.2.1
theorem ax_X.gd (X : ax_X p m meth c s args V G cc nL own pl ret) : GoodIn V.ts V.ts := X.2.2.2.2.2.2.2.2.2.1
theorem ax_X.lk (X : ax_X p m meth c s args V G cc nL own pl ret) : meth.locks = false := X.2.2.2.2.2.2.2.2.2.2.1
theorem ax_X.rt (X : ax_X p m meth c s args V G cc nL own pl ret) : meth.sig.returnType = ret := X.2.2.2.2.2.2.2.2.2.2.2.1
theorem ax_X.ini (X : ax_X p m meth c s args V G cc nL own pl ret) : pl.2.2 = true → meth.name = "<init>" := X.2.2.2.2.2.2.2.2.2.2.2.2
end AXX
section AXI
variable {p : Program} {l : Launch} {e : Env} {R : Room} {s : State} {m : MethodId} {args : Array Value} {below : List Frame} {meth : Method} {c : Code} {V : ax_V} {G : ax_G} {cc : ByteArray} {nL : Nat} {own : String} {pl : ax_pool} {ret : Option FieldType} {cells slots : Nat} {Q : State → Prop}
theorem ax_getf (X : ax_X p m meth c s args V G cc nL own pl ret) {pc : Nat} {ls : Array Slot} {rest : List Value} {h : List va_E} {H : Heap} {locs : List Loc} {a ci k idx : Nat} {fs : List Value} {v : Value} (hH : ax_H V G h H) (ha : h[a]? = some (.inr (ci, fs))) (hf : pl.1 idx ci = some k) (hv1 : fs[k]? = some v) (hd : decode cc pc = .ok (.getfield idx, 3))
    (kk : W p l e R s m args below meth c H locs cells slots Q (F0 m (pc + 3) ls (ax_v G.ph v :: rest))) : W p l e R s m args below meth c H locs cells slots Q (F0 m pc ls (.ref (G.ph a) :: rest)) := by
  obtain ⟨C, T, N, ref, h1, h2, h3, h4⟩ := X.f idx ci k hf
  obtain ⟨r', e1, cell, q1, q2, q3, q4⟩ := hH.1 a _ ha rfl
  have hr : r' = (C, T, N) := Option.some.inj (e1.symm.trans h1)
  subst hr
  obtain ⟨cf, kf, fi, f, hi, hsl, hst⟩ := (X.k.1 ci _ h1).1 k h2
  refine W.getf X.x X.b X.ow (X.ts _ h3) (ax_same X.ts h4 _ hi) hst q1 (by rw [q3]; exact fun h => by cases h) (v := ax_v G.ph v) ?_ rfl rfl hd kk
  rw [hsl, q4 k h2]
  simp [vp_V, List.getD_eq_getElem?_getD, hv1]
set_option maxHeartbeats 4000000 in
theorem ax_i_ok {α : Type} (X : ax_X p m meth c s args V G cc nL own pl ret) {pc : Nat} {i : Instr} {len : Nat} (hd : decode cc pc = .ok (i, len)) {lv : List (Nat × Value)} {st : List Value} {h : List va_E} {k : List (Nat × Value) → List Value → List va_E → Option α} {z : α}
    (hi : ax_i nL pl (i, len) lv st h k = some z) (kk : ∀ lv' st' h', k lv' st' h' = some z → AW p l e R s m args below meth c V G nL h' cells slots Q (pc + len) lv' st') : AW p l e R s m args below meth c V G nL h cells slots Q pc lv st := by
  cases i with
  | iconst n =>
    have hi2 := ax_len (show (bif Nat.beq len 1 then _ else none) = some z from hi)
    clear hi
    obtain ⟨e9, hi⟩ := hi2
    subst e9
    intro H locs ls hH hl hv
    exact lv_iconst X.x X.b hd rfl (kk _ _ _ hi H locs ls hH hl hv)
  | bipush n =>
    have hi2 := ax_len (show (bif Nat.beq len 2 then _ else none) = some z from hi)
    clear hi
    obtain ⟨e9, hi⟩ := hi2
    subst e9
    intro H locs ls hH hl hv
    exact lv_bipush X.x X.b hd rfl (kk _ _ _ hi H locs ls hH hl hv)
  | sipush n =>
    have hi2 := ax_len (show (bif Nat.beq len 3 then _ else none) = some z from hi)
    clear hi
    obtain ⟨e9, hi⟩ := hi2
    subst e9
    intro H locs ls hH hl hv
    exact lv_sipush X.x X.b hd rfl (kk _ _ _ hi H locs ls hH hl hv)
  | lconst n =>
    have hi2 := ax_len (show (bif Nat.beq len 1 then _ else none) = some z from hi)
    clear hi
    obtain ⟨e9, hi⟩ := hi2
    subst e9
    intro H locs ls hH hl hv
    exact lv_lconst X.x X.b hd rfl (kk _ _ _ hi H locs ls hH hl hv)
  | aconst_null =>
    have hi2 := ax_len (show (bif Nat.beq len 1 then _ else none) = some z from hi)
    clear hi
    obtain ⟨e9, hi⟩ := hi2
    subst e9
    intro H locs ls hH hl hv
    exact lv_null X.x X.b hd (kk _ _ _ hi H locs ls hH hl hv)
  | iload_n n =>
    have hi2 := ax_len (show (bif Nat.beq len 1 then _ else none) = some z from hi)
    clear hi
    obtain ⟨e9, hi⟩ := hi2
    subst e9
    rw [ax_f4_eq] at hi
    replace hi := ax_any_ok hi
    obtain ⟨v, hv1, hi⟩ := hi
    replace hi := ax_isI_ok hi
    obtain ⟨x, rfl, hi⟩ := hi
    intro H locs ls hH hl hv
    exact lv_iload_n X.x X.b hd rfl (ax_l_at hv1 hv) (kk _ _ _ hi H locs ls hH hl hv)
  | iload i =>
    have hi2 := ax_len (show (bif Nat.beq len 2 then _ else none) = some z from hi)
    clear hi
    obtain ⟨e9, hi⟩ := hi2
    subst e9
    replace hi := ax_any_ok hi
    obtain ⟨v, hv1, hi⟩ := hi
    replace hi := ax_isI_ok hi
    obtain ⟨x, rfl, hi⟩ := hi
    intro H locs ls hH hl hv
    exact lv_iload X.x X.b hd (ax_l_at hv1 hv) (kk _ _ _ hi H locs ls hH hl hv)
  | lload_n n =>
    have hi2 := ax_len (show (bif Nat.beq len 1 then _ else none) = some z from hi)
    clear hi
    obtain ⟨e9, hi⟩ := hi2
    subst e9
    rw [ax_f4_eq] at hi
    replace hi := ax_any_ok hi
    obtain ⟨v, hv1, hi⟩ := hi
    replace hi := ax_isL_ok hi
    obtain ⟨x, rfl, hi⟩ := hi
    intro H locs ls hH hl hv
    exact lv_lload_n X.x X.b hd rfl (ax_l_at hv1 hv) (kk _ _ _ hi H locs ls hH hl hv)
  | lload i =>
    have hi2 := ax_len (show (bif Nat.beq len 2 then _ else none) = some z from hi)
    clear hi
    obtain ⟨e9, hi⟩ := hi2
    subst e9
    replace hi := ax_any_ok hi
    obtain ⟨v, hv1, hi⟩ := hi
    replace hi := ax_isL_ok hi
    obtain ⟨x, rfl, hi⟩ := hi
    intro H locs ls hH hl hv
    exact lv_lload X.x X.b hd (ax_l_at hv1 hv) (kk _ _ _ hi H locs ls hH hl hv)
  | aload_n n =>
    have hi2 := ax_len (show (bif Nat.beq len 1 then _ else none) = some z from hi)
    clear hi
    obtain ⟨e9, hi⟩ := hi2
    subst e9
    rw [ax_f4_eq] at hi
    replace hi := ax_any_ok hi
    obtain ⟨v, hv1, hi⟩ := hi
    replace hi := ax_isR_ok hi
    rcases hi with ⟨x, rfl, hi⟩ | ⟨rfl, hi⟩
    · intro H locs ls hH hl hv
      exact lv_aload_n X.x X.b hd rfl (ax_l_at hv1 hv) (kk _ _ _ hi H locs ls hH hl hv)
    · intro H locs ls hH hl hv
      exact lv_aload_nN X.x X.b hd rfl (ax_l_at hv1 hv) (kk _ _ _ hi H locs ls hH hl hv)
  | aload i =>
    have hi2 := ax_len (show (bif Nat.beq len 2 then _ else none) = some z from hi)
    clear hi
    obtain ⟨e9, hi⟩ := hi2
    subst e9
    replace hi := ax_any_ok hi
    obtain ⟨v, hv1, hi⟩ := hi
    replace hi := ax_isR_ok hi
    rcases hi with ⟨x, rfl, hi⟩ | ⟨rfl, hi⟩
    · intro H locs ls hH hl hv
      exact lv_aload X.x X.b hd (ax_l_at hv1 hv) (kk _ _ _ hi H locs ls hH hl hv)
    · intro H locs ls hH hl hv
      exact lv_aloadN X.x X.b hd (ax_l_at hv1 hv) (kk _ _ _ hi H locs ls hH hl hv)
  | istore_n n =>
    have hi2 := ax_len (show (bif Nat.beq len 1 then _ else none) = some z from hi)
    clear hi
    obtain ⟨e9, hi⟩ := hi2
    subst e9
    rw [ax_f4_eq] at hi
    replace hi := ax_i1_ok hi
    obtain ⟨x, r, rfl, hi⟩ := hi
    replace hi := ax_bif hi
    obtain ⟨h2, hi⟩ := hi
    rw [ax_rm_eq] at hi
    intro H locs ls hH hl hv
    exact lv_istore_n X.x X.b hd rfl hv (ax_blt h2) (ax_fl1 G.ph _ (.int x) lv) (fun ls hv => (kk _ _ _ hi H locs ls hH hl hv))
  | istore i =>
    have hi2 := ax_len (show (bif Nat.beq len 2 then _ else none) = some z from hi)
    clear hi
    obtain ⟨e9, hi⟩ := hi2
    subst e9
    replace hi := ax_i1_ok hi
    obtain ⟨x, r, rfl, hi⟩ := hi
    replace hi := ax_bif hi
    obtain ⟨h2, hi⟩ := hi
    rw [ax_rm_eq] at hi
    intro H locs ls hH hl hv
    exact lv_istore X.x X.b hd hv (ax_blt h2) (ax_fl1 G.ph _ (.int x) lv) (fun ls hv => (kk _ _ _ hi H locs ls hH hl hv))
  | lstore_n n =>
    have hi2 := ax_len (show (bif Nat.beq len 1 then _ else none) = some z from hi)
    clear hi
    obtain ⟨e9, hi⟩ := hi2
    subst e9
    rw [ax_f4_eq] at hi
    replace hi := ax_l1_ok hi
    obtain ⟨x, r, rfl, hi⟩ := hi
    replace hi := ax_bif hi
    obtain ⟨h2, hi⟩ := hi
    rw [ax_rm2_eq] at hi
    intro H locs ls hH hl hv
    exact lv_lstore_n X.x X.b hd rfl hv (ax_blt h2) (ax_fl2 G.ph _ (.long x) lv) (fun ls hv => (kk _ _ _ hi H locs ls hH hl hv))
  | lstore i =>
    have hi2 := ax_len (show (bif Nat.beq len 2 then _ else none) = some z from hi)
    clear hi
    obtain ⟨e9, hi⟩ := hi2
    subst e9
    replace hi := ax_l1_ok hi
    obtain ⟨x, r, rfl, hi⟩ := hi
    replace hi := ax_bif hi
    obtain ⟨h2, hi⟩ := hi
    rw [ax_rm2_eq] at hi
    intro H locs ls hH hl hv
    exact lv_lstore X.x X.b hd hv (ax_blt h2) (ax_fl2 G.ph _ (.long x) lv) (fun ls hv => (kk _ _ _ hi H locs ls hH hl hv))
  | astore_n n =>
    have hi2 := ax_len (show (bif Nat.beq len 1 then _ else none) = some z from hi)
    clear hi
    obtain ⟨e9, hi⟩ := hi2
    subst e9
    rw [ax_f4_eq] at hi
    replace hi := ax_v1_ok hi
    obtain ⟨v, r, rfl, hi⟩ := hi
    replace hi := ax_bif hi
    obtain ⟨h2, hi⟩ := hi
    replace hi := ax_isR_ok hi
    rcases hi with ⟨x, rfl, hi⟩ | ⟨rfl, hi⟩
    · replace hi := (ax_rm_eq _ _ _).symm.trans hi
      intro H locs ls hH hl hv
      exact lv_astore_n X.x X.b hd rfl hv (ax_blt h2) (ax_fl1 G.ph _ (.ref x) lv) (fun ls hv => (kk _ _ _ hi H locs ls hH hl hv))
    · rw [ax_rm_eq] at hi
      intro H locs ls hH hl hv
      exact lv_astore_nN X.x X.b hd rfl hv (ax_blt h2) (ax_fl1 G.ph _ .null lv) (fun ls hv => (kk _ _ _ hi H locs ls hH hl hv))
  | astore i =>
    have hi2 := ax_len (show (bif Nat.beq len 2 then _ else none) = some z from hi)
    clear hi
    obtain ⟨e9, hi⟩ := hi2
    subst e9
    replace hi := ax_v1_ok hi
    obtain ⟨v, r, rfl, hi⟩ := hi
    replace hi := ax_bif hi
    obtain ⟨h2, hi⟩ := hi
    replace hi := ax_isR_ok hi
    rcases hi with ⟨x, rfl, hi⟩ | ⟨rfl, hi⟩
    · replace hi := (ax_rm_eq _ _ _).symm.trans hi
      intro H locs ls hH hl hv
      exact lv_astore X.x X.b hd hv (ax_blt h2) (ax_fl1 G.ph _ (.ref x) lv) (fun ls hv => (kk _ _ _ hi H locs ls hH hl hv))
    · rw [ax_rm_eq] at hi
      intro H locs ls hH hl hv
      exact lv_astoreN X.x X.b hd hv (ax_blt h2) (ax_fl1 G.ph _ .null lv) (fun ls hv => (kk _ _ _ hi H locs ls hH hl hv))
  | iinc i n =>
    have hi2 := ax_len (show (bif Nat.beq len 3 then _ else none) = some z from hi)
    clear hi
    obtain ⟨e9, hi⟩ := hi2
    subst e9
    replace hi := ax_any_ok hi
    obtain ⟨v, hv1, hi⟩ := hi
    replace hi := ax_isI_ok hi
    obtain ⟨x, rfl, hi⟩ := hi
    replace hi := ax_bif hi
    obtain ⟨h2, hi⟩ := hi
    rw [ax_rm_eq] at hi
    intro H locs ls hH hl hv
    obtain ⟨q, hq⟩ := List.getElem?_of_mem (List.mem_map.mpr ⟨_, ax_l_mem hv1, rfl⟩ : (i, ax_v G.ph (.int x)) ∈ ax_lv G.ph lv)
    exact lv_iinc (k := q) X.x X.b hd hv hq rfl (ax_blt h2) (ax_fl1 G.ph _ (.int (x + Int32.ofInt n)) lv) (fun ls hv => (kk _ _ _ hi H locs ls hH hl hv))
  | iadd =>
    have hi2 := ax_len (show (bif Nat.beq len 1 then _ else none) = some z from hi)
    clear hi
    obtain ⟨e9, hi⟩ := hi2
    subst e9
    replace hi := ax_ii_ok hi
    obtain ⟨x, y, r, rfl, hi⟩ := hi
    intro H locs ls hH hl hv
    exact lv_iadd X.x X.b hd (kk _ _ _ hi H locs ls hH hl hv)
  | isub =>
    have hi2 := ax_len (show (bif Nat.beq len 1 then _ else none) = some z from hi)
    clear hi
    obtain ⟨e9, hi⟩ := hi2
    subst e9
    replace hi := ax_ii_ok hi
    obtain ⟨x, y, r, rfl, hi⟩ := hi
    intro H locs ls hH hl hv
    exact lv_isub X.x X.b hd (kk _ _ _ hi H locs ls hH hl hv)
  | imul =>
    have hi2 := ax_len (show (bif Nat.beq len 1 then _ else none) = some z from hi)
    clear hi
    obtain ⟨e9, hi⟩ := hi2
    subst e9
    replace hi := ax_ii_ok hi
    obtain ⟨x, y, r, rfl, hi⟩ := hi
    intro H locs ls hH hl hv
    exact lv_imul X.x X.b hd (kk _ _ _ hi H locs ls hH hl hv)
  | iand =>
    have hi2 := ax_len (show (bif Nat.beq len 1 then _ else none) = some z from hi)
    clear hi
    obtain ⟨e9, hi⟩ := hi2
    subst e9
    replace hi := ax_ii_ok hi
    obtain ⟨x, y, r, rfl, hi⟩ := hi
    intro H locs ls hH hl hv
    exact lv_iand X.x X.b hd (kk _ _ _ hi H locs ls hH hl hv)
  | ior =>
    have hi2 := ax_len (show (bif Nat.beq len 1 then _ else none) = some z from hi)
    clear hi
    obtain ⟨e9, hi⟩ := hi2
    subst e9
    replace hi := ax_ii_ok hi
    obtain ⟨x, y, r, rfl, hi⟩ := hi
    intro H locs ls hH hl hv
    exact lv_ior X.x X.b hd (kk _ _ _ hi H locs ls hH hl hv)
  | ixor =>
    have hi2 := ax_len (show (bif Nat.beq len 1 then _ else none) = some z from hi)
    clear hi
    obtain ⟨e9, hi⟩ := hi2
    subst e9
    replace hi := ax_ii_ok hi
    obtain ⟨x, y, r, rfl, hi⟩ := hi
    intro H locs ls hH hl hv
    exact lv_ixor X.x X.b hd (kk _ _ _ hi H locs ls hH hl hv)
  | ishl =>
    have hi2 := ax_len (show (bif Nat.beq len 1 then _ else none) = some z from hi)
    clear hi
    obtain ⟨e9, hi⟩ := hi2
    subst e9
    replace hi := ax_ii_ok hi
    obtain ⟨x, y, r, rfl, hi⟩ := hi
    intro H locs ls hH hl hv
    exact lv_ishl X.x X.b hd (kk _ _ _ hi H locs ls hH hl hv)
  | ishr =>
    have hi2 := ax_len (show (bif Nat.beq len 1 then _ else none) = some z from hi)
    clear hi
    obtain ⟨e9, hi⟩ := hi2
    subst e9
    replace hi := ax_ii_ok hi
    obtain ⟨x, y, r, rfl, hi⟩ := hi
    intro H locs ls hH hl hv
    exact lv_ishr X.x X.b hd (kk _ _ _ hi H locs ls hH hl hv)
  | iushr =>
    have hi2 := ax_len (show (bif Nat.beq len 1 then _ else none) = some z from hi)
    clear hi
    obtain ⟨e9, hi⟩ := hi2
    subst e9
    replace hi := ax_ii_ok hi
    obtain ⟨x, y, r, rfl, hi⟩ := hi
    intro H locs ls hH hl hv
    exact lv_iushr X.x X.b hd rfl (kk _ _ _ hi H locs ls hH hl hv)
  | ineg =>
    have hi2 := ax_len (show (bif Nat.beq len 1 then _ else none) = some z from hi)
    clear hi
    obtain ⟨e9, hi⟩ := hi2
    subst e9
    replace hi := ax_i1_ok hi
    obtain ⟨x, r, rfl, hi⟩ := hi
    intro H locs ls hH hl hv
    exact lv_ineg X.x X.b hd (kk _ _ _ hi H locs ls hH hl hv)
  | ladd =>
    have hi2 := ax_len (show (bif Nat.beq len 1 then _ else none) = some z from hi)
    clear hi
    obtain ⟨e9, hi⟩ := hi2
    subst e9
    replace hi := ax_ll_ok hi
    obtain ⟨x, y, r, rfl, hi⟩ := hi
    intro H locs ls hH hl hv
    exact lv_ladd X.x X.b hd (kk _ _ _ hi H locs ls hH hl hv)
  | lsub =>
    have hi2 := ax_len (show (bif Nat.beq len 1 then _ else none) = some z from hi)
    clear hi
    obtain ⟨e9, hi⟩ := hi2
    subst e9
    replace hi := ax_ll_ok hi
    obtain ⟨x, y, r, rfl, hi⟩ := hi
    intro H locs ls hH hl hv
    exact lv_lsub X.x X.b hd (kk _ _ _ hi H locs ls hH hl hv)
  | lmul =>
    have hi2 := ax_len (show (bif Nat.beq len 1 then _ else none) = some z from hi)
    clear hi
    obtain ⟨e9, hi⟩ := hi2
    subst e9
    replace hi := ax_ll_ok hi
    obtain ⟨x, y, r, rfl, hi⟩ := hi
    intro H locs ls hH hl hv
    exact lv_lmul X.x X.b hd (kk _ _ _ hi H locs ls hH hl hv)
  | land =>
    have hi2 := ax_len (show (bif Nat.beq len 1 then _ else none) = some z from hi)
    clear hi
    obtain ⟨e9, hi⟩ := hi2
    subst e9
    replace hi := ax_ll_ok hi
    obtain ⟨x, y, r, rfl, hi⟩ := hi
    intro H locs ls hH hl hv
    exact lv_land X.x X.b hd (kk _ _ _ hi H locs ls hH hl hv)
  | lor =>
    have hi2 := ax_len (show (bif Nat.beq len 1 then _ else none) = some z from hi)
    clear hi
    obtain ⟨e9, hi⟩ := hi2
    subst e9
    replace hi := ax_ll_ok hi
    obtain ⟨x, y, r, rfl, hi⟩ := hi
    intro H locs ls hH hl hv
    exact lv_lor X.x X.b hd (kk _ _ _ hi H locs ls hH hl hv)
  | lxor =>
    have hi2 := ax_len (show (bif Nat.beq len 1 then _ else none) = some z from hi)
    clear hi
    obtain ⟨e9, hi⟩ := hi2
    subst e9
    replace hi := ax_ll_ok hi
    obtain ⟨x, y, r, rfl, hi⟩ := hi
    intro H locs ls hH hl hv
    exact lv_lxor X.x X.b hd (kk _ _ _ hi H locs ls hH hl hv)
  | lneg =>
    have hi2 := ax_len (show (bif Nat.beq len 1 then _ else none) = some z from hi)
    clear hi
    obtain ⟨e9, hi⟩ := hi2
    subst e9
    replace hi := ax_l1_ok hi
    obtain ⟨x, r, rfl, hi⟩ := hi
    intro H locs ls hH hl hv
    exact lv_lneg X.x X.b hd (kk _ _ _ hi H locs ls hH hl hv)
  | lshl =>
    have hi2 := ax_len (show (bif Nat.beq len 1 then _ else none) = some z from hi)
    clear hi
    obtain ⟨e9, hi⟩ := hi2
    subst e9
    replace hi := ax_li_ok hi
    obtain ⟨x, y, r, rfl, hi⟩ := hi
    intro H locs ls hH hl hv
    exact lv_lshl X.x X.b hd rfl (kk _ _ _ hi H locs ls hH hl hv)
  | lshr =>
    have hi2 := ax_len (show (bif Nat.beq len 1 then _ else none) = some z from hi)
    clear hi
    obtain ⟨e9, hi⟩ := hi2
    subst e9
    replace hi := ax_li_ok hi
    obtain ⟨x, y, r, rfl, hi⟩ := hi
    intro H locs ls hH hl hv
    exact lv_lshr X.x X.b hd rfl (kk _ _ _ hi H locs ls hH hl hv)
  | lushr =>
    have hi2 := ax_len (show (bif Nat.beq len 1 then _ else none) = some z from hi)
    clear hi
    obtain ⟨e9, hi⟩ := hi2
    subst e9
    replace hi := ax_li_ok hi
    obtain ⟨x, y, r, rfl, hi⟩ := hi
    intro H locs ls hH hl hv
    exact lv_lushr X.x X.b hd rfl (kk _ _ _ hi H locs ls hH hl hv)
  | lcmp =>
    have hi2 := ax_len (show (bif Nat.beq len 1 then _ else none) = some z from hi)
    clear hi
    obtain ⟨e9, hi⟩ := hi2
    subst e9
    replace hi := ax_ll_ok hi
    obtain ⟨x, y, r, rfl, hi⟩ := hi
    intro H locs ls hH hl hv
    exact W.lcmp X.x X.b hd (kk _ _ _ hi H locs ls hH hl hv)
  | i2l =>
    have hi2 := ax_len (show (bif Nat.beq len 1 then _ else none) = some z from hi)
    clear hi
    obtain ⟨e9, hi⟩ := hi2
    subst e9
    replace hi := ax_i1_ok hi
    obtain ⟨x, r, rfl, hi⟩ := hi
    intro H locs ls hH hl hv
    exact lv_i2l X.x X.b hd rfl (kk _ _ _ hi H locs ls hH hl hv)
  | l2i =>
    have hi2 := ax_len (show (bif Nat.beq len 1 then _ else none) = some z from hi)
    clear hi
    obtain ⟨e9, hi⟩ := hi2
    subst e9
    replace hi := ax_l1_ok hi
    obtain ⟨x, r, rfl, hi⟩ := hi
    intro H locs ls hH hl hv
    exact lv_l2i X.x X.b hd rfl (kk _ _ _ hi H locs ls hH hl hv)
  | i2b =>
    have hi2 := ax_len (show (bif Nat.beq len 1 then _ else none) = some z from hi)
    clear hi
    obtain ⟨e9, hi⟩ := hi2
    subst e9
    replace hi := ax_i1_ok hi
    obtain ⟨x, r, rfl, hi⟩ := hi
    intro H locs ls hH hl hv
    exact lv_i2b X.x X.b hd rfl (kk _ _ _ hi H locs ls hH hl hv)
  | dup =>
    have hi2 := ax_len (show (bif Nat.beq len 1 then _ else none) = some z from hi)
    clear hi
    obtain ⟨e9, hi⟩ := hi2
    subst e9
    replace hi := ax_v1_ok hi
    obtain ⟨v, r, rfl, hi⟩ := hi
    replace hi := ax_bif hi
    obtain ⟨h2, hi⟩ := hi
    intro H locs ls hH hl hv
    exact lv_dup X.x X.b hd (ax_c1_ok h2) (kk _ _ _ hi H locs ls hH hl hv)
  | pop =>
    have hi2 := ax_len (show (bif Nat.beq len 1 then _ else none) = some z from hi)
    clear hi
    obtain ⟨e9, hi⟩ := hi2
    subst e9
    replace hi := ax_v1_ok hi
    obtain ⟨v, r, rfl, hi⟩ := hi
    replace hi := ax_bif hi
    obtain ⟨h2, hi⟩ := hi
    intro H locs ls hH hl hv
    exact lv_pop X.x X.b hd (ax_c1_ok h2) (kk _ _ _ hi H locs ls hH hl hv)
  | dup_x1 =>
    have hi2 := ax_len (show (bif Nat.beq len 1 then _ else none) = some z from hi)
    clear hi
    obtain ⟨e9, hi⟩ := hi2
    subst e9
    replace hi := ax_v1_ok hi
    obtain ⟨v, r, rfl, hi⟩ := hi
    replace hi := ax_v1_ok hi
    obtain ⟨u, r, rfl, hi⟩ := hi
    replace hi := ax_bif hi
    obtain ⟨h2, hi⟩ := hi
    rw [Bool.and_eq_true] at h2
    intro H locs ls hH hl hv
    exact lv_dup_x1 X.x X.b hd (ax_c1_ok h2.1) (ax_c1_ok h2.2) (kk _ _ _ hi H locs ls hH hl hv)
  | dup_x2 =>
    have hi2 := ax_len (show (bif Nat.beq len 1 then _ else none) = some z from hi)
    clear hi
    obtain ⟨e9, hi⟩ := hi2
    subst e9
    replace hi := ax_v1_ok hi
    obtain ⟨v, r, rfl, hi⟩ := hi
    replace hi := ax_v1_ok hi
    obtain ⟨u, r, rfl, hi⟩ := hi
    replace hi := ax_v1_ok hi
    obtain ⟨w, r, rfl, hi⟩ := hi
    replace hi := ax_bif hi
    obtain ⟨h2, hi⟩ := hi
    rw [Bool.and_eq_true, Bool.and_eq_true] at h2
    intro H locs ls hH hl hv
    exact lv_dup_x2 X.x X.b hd (ax_c1_ok h2.1) (ax_c1_ok h2.2.1) (ax_c1_ok h2.2.2) (kk _ _ _ hi H locs ls hH hl hv)
  | dup2 =>
    have hi2 := ax_len (show (bif Nat.beq len 1 then _ else none) = some z from hi)
    clear hi
    obtain ⟨e9, hi⟩ := hi2
    subst e9
    replace hi := ax_v1_ok hi
    obtain ⟨v, r, rfl, hi⟩ := hi
    cases h2 : ax_c2 v with
    | true =>
      rw [h2] at hi
      intro H locs ls hH hl hv
      exact lv_dup2_2 X.x X.b hd (ax_c2_ok h2) (kk _ _ _ hi H locs ls hH hl hv)
    | false =>
      rw [h2] at hi
      replace hi := ax_v1_ok hi
      obtain ⟨u, r, rfl, hi⟩ := hi
      replace hi := ax_bif hi
      obtain ⟨h3, hi⟩ := hi
      rw [Bool.and_eq_true] at h3
      intro H locs ls hH hl hv
      exact lv_dup2_11 X.x X.b hd (ax_c1_ok h3.1) (ax_c1_ok h3.2) (kk _ _ _ hi H locs ls hH hl hv)
  | getfield idx =>
    have hi2 := ax_len (show (bif Nat.beq len 3 then _ else none) = some z from hi)
    clear hi
    obtain ⟨e9, hi⟩ := hi2
    subst e9
    replace hi := ax_v1_ok hi
    obtain ⟨v, r, rfl, hi⟩ := hi
    replace hi := ax_isR_ok hi
    rcases hi with ⟨a, rfl, hi⟩ | ⟨rfl, hi⟩
    · replace hi := ax_ob_ok hi
      obtain ⟨ci, fs, ho, hi⟩ := hi
      replace hi := ax_fld_ok hi
      obtain ⟨i, hf, hi⟩ := hi
      replace hi := ax_any_ok hi
      obtain ⟨u, hu, hi⟩ := hi
      intro H locs ls hH hl hv
      exact ax_getf X hH ho hf hu hd (kk _ _ _ hi H locs ls hH hl hv)
    · cases hi
  | ldc idx =>
    have hi2 := ax_len (show (bif Nat.beq len 2 then _ else none) = some z from hi)
    clear hi
    obtain ⟨e9, hi⟩ := hi2
    subst e9
    replace hi := ax_any_ok hi
    obtain ⟨v, hv1, hi⟩ := hi
    replace hi := ax_isI_ok hi
    obtain ⟨x, rfl, hi⟩ := hi
    intro H locs ls hH hl hv
    exact lv_ldc X.x X.b X.ow (X.ts _ (X.pk.1 idx x hv1)) hd (kk _ _ _ hi H locs ls hH hl hv)
  | ldc2_w idx =>
    have hi2 := ax_len (show (bif Nat.beq len 3 then _ else none) = some z from hi)
    clear hi
    obtain ⟨e9, hi⟩ := hi2
    subst e9
    replace hi := ax_any_ok hi
    obtain ⟨v, hv1, hi⟩ := hi
    replace hi := ax_isL_ok hi
    obtain ⟨x, rfl, hi⟩ := hi
    intro H locs ls hH hl hv
    exact lv_ldc2 X.x X.b X.ow (X.ts _ (X.pk.2 idx x hv1)) hd (kk _ _ _ hi H locs ls hH hl hv)
  | _ => exact absurd hi (fun q => by cases q)
def ax_run (nL : Nat) (pl : ax_pool) : List (Instr × Nat) → List (Nat × Value) → List Value → List va_E → Option (List (Nat × Value) × List Value × List va_E)
  | [], lv, st, h => some (lv, st, h)
  | q :: r, lv, st, h => ax_i nL pl q lv st h (fun lv st h => ax_run nL pl r lv st h)
/-- these instructions lie at pc, and end before pc' -/
def ax_sg (cc : ByteArray) : Nat → Nat → List (Instr × Nat) → Prop
  | pc, pc', [] => pc = pc'
  | pc, pc', q :: r => decode cc pc = .ok q ∧ ax_sg cc (pc + q.2) pc' r
theorem AW.seg (X : ax_X p m meth c s args V G cc nL own pl ret) {lv' : List (Nat × Value)} {st' : List Value} {h' : List va_E} : ∀ {is : List (Instr × Nat)} {pc pc' : Nat} {lv : List (Nat × Value)} {st : List Value} {h : List va_E}, ax_sg cc pc pc' is → ax_run nL pl is lv st h = some (lv', st', h') →
    AW p l e R s m args below meth c V G nL h' cells slots Q pc' lv' st' → AW p l e R s m args below meth c V G nL h cells slots Q pc lv st
  | [], pc, pc', lv, st, h, hs, hr, kk => by
    cases hs
    cases hr
    exact kk
  | q :: r, pc, pc', lv, st, h, hs, hr, kk => by
    obtain ⟨i, len⟩ := q
    exact ax_i_ok X hs.1 hr (fun lv1 st1 h1 h2 => AW.seg X hs.2 h2 kk)
end AXI
end
section
/-! RULES: branches, arrays, fields, new cells, calls, ends -/
/-- a jump's goal -/
def ax_tg (pc : Nat) (off : Int) : Nat := ((pc : Int) + off).toNat
theorem ax_tg_eq {pc : Nat} {off : Int} (h : 0 ≤ (pc : Int) + off) : (pc : Int) + off = (ax_tg pc off : Int) := (Int.toNat_of_nonneg h).symm
section AXR
variable {p : Program} {l : Launch} {e : Env} {R : Room} {s : State} {m : MethodId} {args : Array Value} {below : List Frame} {meth : Method} {c : Code} {V : ax_V} {G : ax_G} {cc : ByteArray} {nL : Nat} {own : String} {pl : ax_pool} {ret : Option FieldType} {cells slots : Nat} {Q : State → Prop}
variable {pc : Nat} {lv : List (Nat × Value)} {r : List Value} {h : List va_E}
theorem AW.goto (X : ax_X p m meth c s args V G cc nL own pl ret) {off : Int} (hd : decode cc pc = .ok (.goto off, 3)) (k : AW p l e R s m args below meth c V G nL h cells slots Q (ax_tg pc off) lv r) (h0 : 0 ≤ (pc : Int) + off := by decide) : AW p l e R s m args below meth c V G nL h cells slots Q pc lv r := by
  intro H locs ls hH hl hv
  exact lv_goto X.x X.b hd (ax_tg_eq h0) (k H locs ls hH hl hv)
theorem AW.ifnull (X : ax_X p m meth c s args V G cc nL own pl ret) {a : Nat} {off : Int} (hd : decode cc pc = .ok (.ifnull off, 3)) (k : AW p l e R s m args below meth c V G nL h cells slots Q (pc + 3) lv r) : AW p l e R s m args below meth c V G nL h cells slots Q pc lv (.ref a :: r) := by
  intro H locs ls hH hl hv
  exact lv_ifnull X.x X.b hd (k H locs ls hH hl hv)
theorem AW.ifnullN (X : ax_X p m meth c s args V G cc nL own pl ret) {off : Int} (hd : decode cc pc = .ok (.ifnull off, 3)) (k : AW p l e R s m args below meth c V G nL h cells slots Q (ax_tg pc off) lv r) (h0 : 0 ≤ (pc : Int) + off := by decide) : AW p l e R s m args below meth c V G nL h cells slots Q pc lv (.null :: r) := by
  intro H locs ls hH hl hv
  exact lv_ifnullN X.x X.b hd (ax_tg_eq h0) (k H locs ls hH hl hv)
theorem AW.ifnonnull (X : ax_X p m meth c s args V G cc nL own pl ret) {a : Nat} {off : Int} (hd : decode cc pc = .ok (.ifnonnull off, 3)) (k : AW p l e R s m args below meth c V G nL h cells slots Q (ax_tg pc off) lv r) (h0 : 0 ≤ (pc : Int) + off := by decide) : AW p l e R s m args below meth c V G nL h cells slots Q pc lv (.ref a :: r) := by
  intro H locs ls hH hl hv
  exact lv_ifnonnull X.x X.b hd (ax_tg_eq h0) (k H locs ls hH hl hv)
theorem AW.ifnonnullN (X : ax_X p m meth c s args V G cc nL own pl ret) {off : Int} (hd : decode cc pc = .ok (.ifnonnull off, 3)) (k : AW p l e R s m args below meth c V G nL h cells slots Q (pc + 3) lv r) : AW p l e R s m args below meth c V G nL h cells slots Q pc lv (.null :: r) := by
  intro H locs ls hH hl hv
  exact lv_ifnonnullN X.x X.b hd (k H locs ls hH hl hv)
/-- a reference that may be compared: null, a word, a new cell -/
def ax_ok : Option Nat → Prop
  | none => True
  | some k => k < 39 ∨ ax_nC ≤ k
theorem ax_oi {G : ax_G} (hI : ax_I G) {x y : Option Nat} (hx : ax_ok x) (hy : ax_ok y) : ax_o G.ph x = ax_o G.ph y ↔ x = y := by
  cases x with
  | none => cases y <;> simp [ax_o]
  | some a =>
    cases y with
    | none => simp [ax_o]
    | some b =>
      constructor
      · intro e
        have e : G.ph a = G.ph b := Option.some.inj e
        rcases hx with hx | hx
        · rcases hy with hy | hy
          · rw [hI.1 a b hx hy e]
          · rw [hI.ne hy e]
        · rw [hI.ne hx e.symm]
      · intro e
        rw [e]
theorem ax_rf (ph : Nat → Nat) (x : Option Nat) : ax_v ph (va_rf x) = va_rf (ax_o ph x) := by cases x <;> rfl
theorem AW.acmp_eq (X : ax_X p m meth c s args V G cc nL own pl ret) (rx ry : Option Nat) (hx : ax_ok rx) (hy : ax_ok ry) {off : Int} (hd : decode cc pc = .ok (.if_acmp .eq off, 3)) (kt : rx = ry → AW p l e R s m args below meth c V G nL h cells slots Q (ax_tg pc off) lv r) (kf : ¬ rx = ry → AW p l e R s m args below meth c V G nL h cells slots Q (pc + 3) lv r) (h0 : 0 ≤ (pc : Int) + off := by decide) : AW p l e R s m args below meth c V G nL h cells slots Q pc lv (va_rf ry :: va_rf rx :: r) := by
  intro H locs ls hH hl hv
  rw [List.map_cons, List.map_cons, ax_rf, ax_rf]
  exact lv_acmp_eq X.x X.b hd (ax_tg_eq h0) (fun q => kt ((ax_oi X.i hx hy).mp q) H locs ls hH hl hv) (fun q => kf (fun z => q ((ax_oi X.i hx hy).mpr z)) H locs ls hH hl hv)
theorem AW.acmp_ne (X : ax_X p m meth c s args V G cc nL own pl ret) (rx ry : Option Nat) (hx : ax_ok rx) (hy : ax_ok ry) {off : Int} (hd : decode cc pc = .ok (.if_acmp .ne off, 3)) (kt : ¬ rx = ry → AW p l e R s m args below meth c V G nL h cells slots Q (ax_tg pc off) lv r) (kf : rx = ry → AW p l e R s m args below meth c V G nL h cells slots Q (pc + 3) lv r) (h0 : 0 ≤ (pc : Int) + off := by decide) : AW p l e R s m args below meth c V G nL h cells slots Q pc lv (va_rf ry :: va_rf rx :: r) := by
  intro H locs ls hH hl hv
  rw [List.map_cons, List.map_cons, ax_rf, ax_rf]
  exact lv_acmp_ne X.x X.b hd (ax_tg_eq h0) (fun q => kt (fun z => q ((ax_oi X.i hx hy).mpr z)) H locs ls hH hl hv) (fun q => kf ((ax_oi X.i hx hy).mp q) H locs ls hH hl hv)
theorem AW.if_eq (X : ax_X p m meth c s args V G cc nL own pl ret) {x : Int32} {off : Int} (hd : decode cc pc = .ok (.ifCond .eq off, 3)) (kt : x = 0 → AW p l e R s m args below meth c V G nL h cells slots Q (ax_tg pc off) lv r) (kf : ¬ x = 0 → AW p l e R s m args below meth c V G nL h cells slots Q (pc + 3) lv r) (h0 : 0 ≤ (pc : Int) + off := by decide) : AW p l e R s m args below meth c V G nL h cells slots Q pc lv (.int x :: r) := by
  intro H locs ls hH hl hv
  exact lv_if_eq X.x X.b hd (ax_tg_eq h0) (fun q => kt q H locs ls hH hl hv) (fun q => kf q H locs ls hH hl hv)
theorem AW.icmp_eq (X : ax_X p m meth c s args V G cc nL own pl ret) {x y : Int32} {off : Int} (hd : decode cc pc = .ok (.if_icmp .eq off, 3)) (kt : x = y → AW p l e R s m args below meth c V G nL h cells slots Q (ax_tg pc off) lv r) (kf : ¬ x = y → AW p l e R s m args below meth c V G nL h cells slots Q (pc + 3) lv r) (h0 : 0 ≤ (pc : Int) + off := by decide) : AW p l e R s m args below meth c V G nL h cells slots Q pc lv (.int y :: .int x :: r) := by
  intro H locs ls hH hl hv
  exact lv_icmp_eq X.x X.b hd (ax_tg_eq h0) (fun q => kt q H locs ls hH hl hv) (fun q => kf q H locs ls hH hl hv)
theorem AW.if_ne (X : ax_X p m meth c s args V G cc nL own pl ret) {x : Int32} {off : Int} (hd : decode cc pc = .ok (.ifCond .ne off, 3)) (kt : ¬ x = 0 → AW p l e R s m args below meth c V G nL h cells slots Q (ax_tg pc off) lv r) (kf : x = 0 → AW p l e R s m args below meth c V G nL h cells slots Q (pc + 3) lv r) (h0 : 0 ≤ (pc : Int) + off := by decide) : AW p l e R s m args below meth c V G nL h cells slots Q pc lv (.int x :: r) := by
  intro H locs ls hH hl hv
  exact lv_if_ne X.x X.b hd (ax_tg_eq h0) (fun q => kt q H locs ls hH hl hv) (fun q => kf q H locs ls hH hl hv)
theorem AW.icmp_ne (X : ax_X p m meth c s args V G cc nL own pl ret) {x y : Int32} {off : Int} (hd : decode cc pc = .ok (.if_icmp .ne off, 3)) (kt : ¬ x = y → AW p l e R s m args below meth c V G nL h cells slots Q (ax_tg pc off) lv r) (kf : x = y → AW p l e R s m args below meth c V G nL h cells slots Q (pc + 3) lv r) (h0 : 0 ≤ (pc : Int) + off := by decide) : AW p l e R s m args below meth c V G nL h cells slots Q pc lv (.int y :: .int x :: r) := by
  intro H locs ls hH hl hv
  exact lv_icmp_ne X.x X.b hd (ax_tg_eq h0) (fun q => kt q H locs ls hH hl hv) (fun q => kf q H locs ls hH hl hv)
theorem AW.if_lt (X : ax_X p m meth c s args V G cc nL own pl ret) {x : Int32} {off : Int} (hd : decode cc pc = .ok (.ifCond .lt off, 3)) (kt : x < 0 → AW p l e R s m args below meth c V G nL h cells slots Q (ax_tg pc off) lv r) (kf : ¬ x < 0 → AW p l e R s m args below meth c V G nL h cells slots Q (pc + 3) lv r) (h0 : 0 ≤ (pc : Int) + off := by decide) : AW p l e R s m args below meth c V G nL h cells slots Q pc lv (.int x :: r) := by
  intro H locs ls hH hl hv
  exact lv_if_lt X.x X.b hd (ax_tg_eq h0) (fun q => kt q H locs ls hH hl hv) (fun q => kf q H locs ls hH hl hv)
theorem AW.icmp_lt (X : ax_X p m meth c s args V G cc nL own pl ret) {x y : Int32} {off : Int} (hd : decode cc pc = .ok (.if_icmp .lt off, 3)) (kt : x < y → AW p l e R s m args below meth c V G nL h cells slots Q (ax_tg pc off) lv r) (kf : ¬ x < y → AW p l e R s m args below meth c V G nL h cells slots Q (pc + 3) lv r) (h0 : 0 ≤ (pc : Int) + off := by decide) : AW p l e R s m args below meth c V G nL h cells slots Q pc lv (.int y :: .int x :: r) := by
  intro H locs ls hH hl hv
  exact lv_icmp_lt X.x X.b hd (ax_tg_eq h0) (fun q => kt q H locs ls hH hl hv) (fun q => kf q H locs ls hH hl hv)
theorem AW.if_ge (X : ax_X p m meth c s args V G cc nL own pl ret) {x : Int32} {off : Int} (hd : decode cc pc = .ok (.ifCond .ge off, 3)) (kt : 0 ≤ x → AW p l e R s m args below meth c V G nL h cells slots Q (ax_tg pc off) lv r) (kf : ¬ 0 ≤ x → AW p l e R s m args below meth c V G nL h cells slots Q (pc + 3) lv r) (h0 : 0 ≤ (pc : Int) + off := by decide) : AW p l e R s m args below meth c V G nL h cells slots Q pc lv (.int x :: r) := by
  intro H locs ls hH hl hv
  exact lv_if_ge X.x X.b hd (ax_tg_eq h0) (fun q => kt q H locs ls hH hl hv) (fun q => kf q H locs ls hH hl hv)
theorem AW.icmp_ge (X : ax_X p m meth c s args V G cc nL own pl ret) {x y : Int32} {off : Int} (hd : decode cc pc = .ok (.if_icmp .ge off, 3)) (kt : y ≤ x → AW p l e R s m args below meth c V G nL h cells slots Q (ax_tg pc off) lv r) (kf : ¬ y ≤ x → AW p l e R s m args below meth c V G nL h cells slots Q (pc + 3) lv r) (h0 : 0 ≤ (pc : Int) + off := by decide) : AW p l e R s m args below meth c V G nL h cells slots Q pc lv (.int y :: .int x :: r) := by
  intro H locs ls hH hl hv
  exact lv_icmp_ge X.x X.b hd (ax_tg_eq h0) (fun q => kt q H locs ls hH hl hv) (fun q => kf q H locs ls hH hl hv)
theorem AW.if_gt (X : ax_X p m meth c s args V G cc nL own pl ret) {x : Int32} {off : Int} (hd : decode cc pc = .ok (.ifCond .gt off, 3)) (kt : 0 < x → AW p l e R s m args below meth c V G nL h cells slots Q (ax_tg pc off) lv r) (kf : ¬ 0 < x → AW p l e R s m args below meth c V G nL h cells slots Q (pc + 3) lv r) (h0 : 0 ≤ (pc : Int) + off := by decide) : AW p l e R s m args below meth c V G nL h cells slots Q pc lv (.int x :: r) := by
  intro H locs ls hH hl hv
  exact lv_if_gt X.x X.b hd (ax_tg_eq h0) (fun q => kt q H locs ls hH hl hv) (fun q => kf q H locs ls hH hl hv)
theorem AW.icmp_gt (X : ax_X p m meth c s args V G cc nL own pl ret) {x y : Int32} {off : Int} (hd : decode cc pc = .ok (.if_icmp .gt off, 3)) (kt : y < x → AW p l e R s m args below meth c V G nL h cells slots Q (ax_tg pc off) lv r) (kf : ¬ y < x → AW p l e R s m args below meth c V G nL h cells slots Q (pc + 3) lv r) (h0 : 0 ≤ (pc : Int) + off := by decide) : AW p l e R s m args below meth c V G nL h cells slots Q pc lv (.int y :: .int x :: r) := by
  intro H locs ls hH hl hv
  exact lv_icmp_gt X.x X.b hd (ax_tg_eq h0) (fun q => kt q H locs ls hH hl hv) (fun q => kf q H locs ls hH hl hv)
theorem AW.if_le (X : ax_X p m meth c s args V G cc nL own pl ret) {x : Int32} {off : Int} (hd : decode cc pc = .ok (.ifCond .le off, 3)) (kt : x ≤ 0 → AW p l e R s m args below meth c V G nL h cells slots Q (ax_tg pc off) lv r) (kf : ¬ x ≤ 0 → AW p l e R s m args below meth c V G nL h cells slots Q (pc + 3) lv r) (h0 : 0 ≤ (pc : Int) + off := by decide) : AW p l e R s m args below meth c V G nL h cells slots Q pc lv (.int x :: r) := by
  intro H locs ls hH hl hv
  exact lv_if_le X.x X.b hd (ax_tg_eq h0) (fun q => kt q H locs ls hH hl hv) (fun q => kf q H locs ls hH hl hv)
theorem AW.icmp_le (X : ax_X p m meth c s args V G cc nL own pl ret) {x y : Int32} {off : Int} (hd : decode cc pc = .ok (.if_icmp .le off, 3)) (kt : x ≤ y → AW p l e R s m args below meth c V G nL h cells slots Q (ax_tg pc off) lv r) (kf : ¬ x ≤ y → AW p l e R s m args below meth c V G nL h cells slots Q (pc + 3) lv r) (h0 : 0 ≤ (pc : Int) + off := by decide) : AW p l e R s m args below meth c V G nL h cells slots Q pc lv (.int y :: .int x :: r) := by
  intro H locs ls hH hl hv
  exact lv_icmp_le X.x X.b hd (ax_tg_eq h0) (fun q => kt q H locs ls hH hl hv) (fun q => kf q H locs ls hH hl hv)
theorem AW.tableOut (X : ax_X p m meth c s args V G cc nL own pl ret) {dflt lo hi : Int} {offs : Array Int} {len : Nat} {x : Int32} (hd : decode cc pc = .ok (.tableswitch dflt lo hi offs, len)) (hx : x.toInt < lo ∨ hi < x.toInt) (k : AW p l e R s m args below meth c V G nL h cells slots Q (ax_tg pc dflt) lv r) (h0 : 0 ≤ (pc : Int) + dflt := by decide) : AW p l e R s m args below meth c V G nL h cells slots Q pc lv (.int x :: r) := by
  intro H locs ls hH hl hv
  exact lv_tableOut X.x X.b hd hx (ax_tg_eq h0) (k H locs ls hH hl hv)
theorem AW.tableIn (X : ax_X p m meth c s args V G cc nL own pl ret) {dflt lo hi : Int} {offs : Array Int} {len : Nat} {x : Int32} {off : Int} (hd : decode cc pc = .ok (.tableswitch dflt lo hi offs, len)) (h1 : ¬ x.toInt < lo) (h2 : ¬ hi < x.toInt) (ho : offs[(x.toInt - lo).toNat]? = some off) (k : AW p l e R s m args below meth c V G nL h cells slots Q (ax_tg pc off) lv r) (h0 : 0 ≤ (pc : Int) + off := by decide) : AW p l e R s m args below meth c V G nL h cells slots Q pc lv (.int x :: r) := by
  intro H locs ls hH hl hv
  exact lv_tableIn X.x X.b hd h1 h2 ho (ax_tg_eq h0) (k H locs ls hH hl hv)
theorem AW.lookup (X : ax_X p m meth c s args V G cc nL own pl ret) {dflt : Int} {ps : Array (Int × Int)} {len : Nat} {x : Int32} {off : Int} (hd : decode cc pc = .ok (.lookupswitch dflt ps, len)) (hp : (ps.toList.zip (ps.toList.drop 1)).all (fun (a, next) => a.1 < next.1) = true) (ho : Op.lookupswitch.offset ps.toList dflt x.toInt = off) (k : AW p l e R s m args below meth c V G nL h cells slots Q (ax_tg pc off) lv r) (h0 : 0 ≤ (pc : Int) + off := by decide) : AW p l e R s m args below meth c V G nL h cells slots Q pc lv (.int x :: r) := by
  intro H locs ls hH hl hv
  exact lv_lookup X.x X.b hd hp ho (ax_tg_eq h0) (k H locs ls hH hl hv)
theorem AW.idiv (X : ax_X p m meth c s args V G cc nL own pl ret) {x y : Int32} (hd : decode cc pc = .ok (.idiv, 1)) (hy : ¬ y = 0) (k : AW p l e R s m args below meth c V G nL h cells slots Q (pc + 1) lv (.int (x / y) :: r)) : AW p l e R s m args below meth c V G nL h cells slots Q pc lv (.int y :: .int x :: r) := by
  intro H locs ls hH hl hv
  exact lv_idiv X.x X.b hd hy (k H locs ls hH hl hv)
theorem AW.irem (X : ax_X p m meth c s args V G cc nL own pl ret) {x y : Int32} (hd : decode cc pc = .ok (.irem, 1)) (hy : ¬ y = 0) (k : AW p l e R s m args below meth c V G nL h cells slots Q (pc + 1) lv (.int (x - x / y * y) :: r)) : AW p l e R s m args below meth c V G nL h cells slots Q pc lv (.int y :: .int x :: r) := by
  intro H locs ls hH hl hv
  exact lv_irem X.x X.b hd hy (k H locs ls hH hl hv)
theorem AW.ldiv (X : ax_X p m meth c s args V G cc nL own pl ret) {x y : Int64} (hd : decode cc pc = .ok (.ldiv, 1)) (hy : ¬ y = 0) (k : AW p l e R s m args below meth c V G nL h cells slots Q (pc + 1) lv (.long (x / y) :: r)) : AW p l e R s m args below meth c V G nL h cells slots Q pc lv (.long y :: .long x :: r) := by
  intro H locs ls hH hl hv
  exact lv_ldiv X.x X.b hd hy (k H locs ls hH hl hv)
theorem AW.lrem (X : ax_X p m meth c s args V G cc nL own pl ret) {x y : Int64} (hd : decode cc pc = .ok (.lrem, 1)) (hy : ¬ y = 0) (k : AW p l e R s m args below meth c V G nL h cells slots Q (pc + 1) lv (.long (x - x / y * y) :: r)) : AW p l e R s m args below meth c V G nL h cells slots Q pc lv (.long y :: .long x :: r) := by
  intro H locs ls hH hl hv
  exact lv_lrem X.x X.b hd hy (k H locs ls hH hl hv)
end AXR
end
section
/-! RULES: arrays, fields, new cells -/
theorem ax_locs {G : ax_G} {locs : List Loc} {a i : Nat} (hl : ∀ q ∈ locs, G.bs ≤ q.base) (ha : G.bs ≤ a) : ∀ q ∈ locs ++ [(⟨a, i⟩ : Loc)], G.bs ≤ q.base := t_lc hl ha
theorem ax_inn {i : Int32} {j n : Nat} (hi : i = nI j) (hj : j < n) (hn : n < 2 ^ 31) : vp_in i n ∧ i.toNatClampNeg = j := by
  subst hi
  exact ⟨vp_in_nI hj hn, nI_clamp (by omega)⟩
section AXS
variable {p : Program} {l : Launch} {e : Env} {R : Room} {s : State} {m : MethodId} {args : Array Value} {below : List Frame} {meth : Method} {c : Code} {V : ax_V} {G : ax_G} {cc : ByteArray} {nL : Nat} {own : String} {pl : ax_pool} {ret : Option FieldType} {cells slots : Nat} {Q : State → Prop}
variable {pc : Nat} {lv : List (Nat × Value)} {r : List Value} {h : List va_E} {a t n j : Nat} {i : Int32}
theorem AW.iald (X : ax_X p m meth c s args V G cc nL own pl ret) {f : Nat → Int32} (ha : h[a]? = some (.inl (t, n, .inl f))) (ht : V.tl[t]? = some .int) (hi : i = nI j) (hj : j < n) (hn : n < 2 ^ 31) (hd : decode cc pc = .ok (.iaload, 1)) (k : AW p l e R s m args below meth c V G nL h cells slots Q (pc + 1) lv (.int (f j) :: r)) : AW p l e R s m args below meth c V G nL h cells slots Q pc lv (.int i :: .ref a :: r) := by
  obtain ⟨h1, h2⟩ := ax_inn hi hj hn
  subst h2
  intro H locs ls hH hl hv
  exact va_iald X.x X.b (X.k.K1 ht) (ax_P1 hH ha rfl) 0 0 rfl rfl h1 hd (k H locs ls hH hl hv)
theorem AW.bald (X : ax_X p m meth c s args V G cc nL own pl ret) {f : Nat → Int32} (ha : h[a]? = some (.inl (t, n, .inl f))) (ht : V.tl[t]? = some .byte) (hi : i = nI j) (hj : j < n) (hn : n < 2 ^ 31) (hd : decode cc pc = .ok (.baload, 1)) (k : AW p l e R s m args below meth c V G nL h cells slots Q (pc + 1) lv (.int (f j) :: r)) : AW p l e R s m args below meth c V G nL h cells slots Q pc lv (.int i :: .ref a :: r) := by
  obtain ⟨h1, h2⟩ := ax_inn hi hj hn
  subst h2
  intro H locs ls hH hl hv
  exact va_bald X.x X.b (X.k.K1 ht) (ax_P1 hH ha rfl) 0 0 rfl rfl h1 hd (k H locs ls hH hl hv)
theorem AW.zald (X : ax_X p m meth c s args V G cc nL own pl ret) {f : Nat → Int32} (ha : h[a]? = some (.inl (t, n, .inl f))) (ht : V.tl[t]? = some .boolean) (hi : i = nI j) (hj : j < n) (hn : n < 2 ^ 31) (hd : decode cc pc = .ok (.baload, 1)) (k : AW p l e R s m args below meth c V G nL h cells slots Q (pc + 1) lv (.int (f j) :: r)) : AW p l e R s m args below meth c V G nL h cells slots Q pc lv (.int i :: .ref a :: r) := by
  obtain ⟨h1, h2⟩ := ax_inn hi hj hn
  subst h2
  intro H locs ls hH hl hv
  exact va_zald X.x X.b (X.k.K1 ht) (ax_P1 hH ha rfl) 0 0 rfl rfl h1 hd (k H locs ls hH hl hv)
theorem AW.cald (X : ax_X p m meth c s args V G cc nL own pl ret) {f : Nat → Int32} (ha : h[a]? = some (.inl (t, n, .inl f))) (ht : V.tl[t]? = some .char) (hi : i = nI j) (hj : j < n) (hn : n < 2 ^ 31) (hd : decode cc pc = .ok (.caload, 1)) (k : AW p l e R s m args below meth c V G nL h cells slots Q (pc + 1) lv (.int (f j) :: r)) : AW p l e R s m args below meth c V G nL h cells slots Q pc lv (.int i :: .ref a :: r) := by
  obtain ⟨h1, h2⟩ := ax_inn hi hj hn
  subst h2
  intro H locs ls hH hl hv
  exact va_cald X.x X.b (X.k.K1 ht) (ax_P1 hH ha rfl) 0 0 rfl rfl h1 hd (k H locs ls hH hl hv)
theorem AW.lald (X : ax_X p m meth c s args V G cc nL own pl ret) {f : Nat → Int64} (ha : h[a]? = some (.inl (t, n, .inr (.inl f)))) (ht : V.tl[t]? = some .long) (hi : i = nI j) (hj : j < n) (hn : n < 2 ^ 31) (hd : decode cc pc = .ok (.laload, 1)) (k : AW p l e R s m args below meth c V G nL h cells slots Q (pc + 1) lv (.long (f j) :: r)) : AW p l e R s m args below meth c V G nL h cells slots Q pc lv (.int i :: .ref a :: r) := by
  obtain ⟨h1, h2⟩ := ax_inn hi hj hn
  subst h2
  intro H locs ls hH hl hv
  exact va_lald X.x X.b (X.k.K1 ht) (ax_P1 hH ha rfl) 0 0 rfl rfl h1 hd (k H locs ls hH hl hv)
theorem AW.aald (X : ax_X p m meth c s args V G cc nL own pl ret) {C : String} {f : Nat → Option Nat} (ha : h[a]? = some (.inl (t, n, .inr (.inr (.inr (.inr f)))))) (ht : V.tl[t]? = some (.object C)) (hi : i = nI j) (hj : j < n) (hn : n < 2 ^ 31) (hd : decode cc pc = .ok (.aaload, 1)) (k : AW p l e R s m args below meth c V G nL h cells slots Q (pc + 1) lv (va_rf (f j) :: r)) : AW p l e R s m args below meth c V G nL h cells slots Q pc lv (.int i :: .ref a :: r) := by
  obtain ⟨h1, h2⟩ := ax_inn hi hj hn
  subst h2
  intro H locs ls hH hl hv
  have k1 := k H locs ls hH hl hv
  rw [List.map_cons, ax_rf] at k1
  exact va_aldq X.x X.b (X.k.K1 ht) (ax_P1 hH ha rfl) 0 0 rfl rfl h1 hd k1
theorem AW.alen (X : ax_X p m meth c s args V G cc nL own pl ret) {x : vp_A} {ty : FieldType} (ha : h[a]? = some (.inl (t, x))) (hx0 : ax_nf (.inl (t, x)) = true) (ht : V.tl[t]? = some ty) (hd : decode cc pc = .ok (.arraylength, 1)) (k : AW p l e R s m args below meth c V G nL h cells slots Q (pc + 1) lv (.int (nI x.1) :: r)) : AW p l e R s m args below meth c V G nL h cells slots Q pc lv (.ref a :: r) := by
  intro H locs ls hH hl hv
  have hx : (ax_a G.ph x).1 = x.1 := by
    unfold ax_a
    split <;> rfl
  exact va_alen X.x X.b (X.k.K1 ht) (ax_P1 hH ha hx0) 0 0 rfl rfl (by rw [hx]; rfl) hd (k H locs ls hH hl hv)
theorem AW.iast (X : ax_X p m meth c s args V G cc nL own pl ret) {f : Nat → Int32} {x : Int32} (ha : h[a]? = some (.inl (t, n, .inl f))) (ht : V.tl[t]? = some .int) (hna : ax_nC ≤ a) (hi : i = nI j) (hj : j < n) (hn : n < 2 ^ 31) (hd : decode cc pc = .ok (.iastore, 1)) (k : AW p l e R s m args below meth c V G nL (h.set a (.inl (t, n, .inl (upd f j x)))) cells slots Q (pc + 1) lv r) : AW p l e R s m args below meth c V G nL h cells slots Q pc lv (.int x :: .int i :: .ref a :: r) := by
  obtain ⟨h1, h2⟩ := ax_inn hi hj hn
  subst h2
  intro H locs ls hH hl hv
  refine W.iast X.x X.b (hH.1 a _ ha rfl) ((X.k.2.1 t _ ht).1 n (fun j => .int (f j))) (fun q => by cases q) (by show ¬ (i < 0 ∨ (arrV _ _ _).slots.size ≤ _); rw [arrV_size]; exact h1) rfl rfl hd fun H1 e z oq => ?_
  refine k H1 _ ls (ax_set X.i hH ha hna (fun _ => ?_) z oq) (ax_locs hl (ax_bsle X.i hna)) hv
  show H1[G.ph a]? = some (vp_cell (G.ca t) (n, .inl (upd f i.toNatClampNeg x)))
  rw [e]
  show some ((vp_cell (G.ca t) (n, .inl f)).setSlot _ _) = _
  rw [vp_cell_i, vp_cell_i, arrV_store]
  congr 2
  funext q
  by_cases hq : q = i.toNatClampNeg
  · subst hq
    simp [updV, upd]
    try rfl
  · simp [updV, upd, hq]
theorem AW.bast (X : ax_X p m meth c s args V G cc nL own pl ret) {f : Nat → Int32} {x : Int32} (ha : h[a]? = some (.inl (t, n, .inl f))) (ht : V.tl[t]? = some .byte) (hna : ax_nC ≤ a) (hi : i = nI j) (hj : j < n) (hn : n < 2 ^ 31) (hd : decode cc pc = .ok (.bastore, 1)) (k : AW p l e R s m args below meth c V G nL (h.set a (.inl (t, n, .inl (upd f j (vp_nar .byte x))))) cells slots Q (pc + 1) lv r) : AW p l e R s m args below meth c V G nL h cells slots Q pc lv (.int x :: .int i :: .ref a :: r) := by
  obtain ⟨h1, h2⟩ := ax_inn hi hj hn
  subst h2
  intro H locs ls hH hl hv
  refine W.bast X.x X.b (hH.1 a _ ha rfl) ((X.k.2.1 t _ ht).1 n (fun j => .int (f j))) (fun q => by cases q) (by show ¬ (i < 0 ∨ (arrV _ _ _).slots.size ≤ _); rw [arrV_size]; exact h1) rfl rfl hd fun H1 e z oq => ?_
  refine k H1 _ ls (ax_set X.i hH ha hna (fun _ => ?_) z oq) (ax_locs hl (ax_bsle X.i hna)) hv
  show H1[G.ph a]? = some (vp_cell (G.ca t) (n, .inl (upd f i.toNatClampNeg (vp_nar .byte x))))
  rw [e]
  show some ((vp_cell (G.ca t) (n, .inl f)).setSlot _ _) = _
  rw [vp_cell_i, vp_cell_i, arrV_store]
  congr 2
  funext q
  by_cases hq : q = i.toNatClampNeg
  · subst hq
    simp [updV, upd, vp_nar]
    try rfl
  · simp [updV, upd, hq]
theorem AW.zast (X : ax_X p m meth c s args V G cc nL own pl ret) {f : Nat → Int32} {x : Int32} (ha : h[a]? = some (.inl (t, n, .inl f))) (ht : V.tl[t]? = some .boolean) (hna : ax_nC ≤ a) (hi : i = nI j) (hj : j < n) (hn : n < 2 ^ 31) (hd : decode cc pc = .ok (.bastore, 1)) (k : AW p l e R s m args below meth c V G nL (h.set a (.inl (t, n, .inl (upd f j (vp_nar .boolean x))))) cells slots Q (pc + 1) lv r) : AW p l e R s m args below meth c V G nL h cells slots Q pc lv (.int x :: .int i :: .ref a :: r) := by
  obtain ⟨h1, h2⟩ := ax_inn hi hj hn
  subst h2
  intro H locs ls hH hl hv
  refine W.zast X.x X.b (hH.1 a _ ha rfl) ((X.k.2.1 t _ ht).1 n (fun j => .int (f j))) (fun q => by cases q) (by show ¬ (i < 0 ∨ (arrV _ _ _).slots.size ≤ _); rw [arrV_size]; exact h1) rfl rfl hd fun H1 e z oq => ?_
  refine k H1 _ ls (ax_set X.i hH ha hna (fun _ => ?_) z oq) (ax_locs hl (ax_bsle X.i hna)) hv
  show H1[G.ph a]? = some (vp_cell (G.ca t) (n, .inl (upd f i.toNatClampNeg (vp_nar .boolean x))))
  rw [e]
  show some ((vp_cell (G.ca t) (n, .inl f)).setSlot _ _) = _
  rw [vp_cell_i, vp_cell_i, arrV_store]
  congr 2
  funext q
  by_cases hq : q = i.toNatClampNeg
  · subst hq
    simp [updV, upd, vp_nar]
    try rfl
  · simp [updV, upd, hq]
theorem AW.last (X : ax_X p m meth c s args V G cc nL own pl ret) {f : Nat → Int64} {x : Int64} (ha : h[a]? = some (.inl (t, n, .inr (.inl f)))) (ht : V.tl[t]? = some .long) (hna : ax_nC ≤ a) (hi : i = nI j) (hj : j < n) (hn : n < 2 ^ 31) (hd : decode cc pc = .ok (.lastore, 1)) (k : AW p l e R s m args below meth c V G nL (h.set a (.inl (t, n, .inr (.inl (vp_updL f j x))))) cells slots Q (pc + 1) lv r) : AW p l e R s m args below meth c V G nL h cells slots Q pc lv (.long x :: .int i :: .ref a :: r) := by
  obtain ⟨h1, h2⟩ := ax_inn hi hj hn
  subst h2
  intro H locs ls hH hl hv
  refine W.last X.x X.b (hH.1 a _ ha rfl) ((X.k.2.1 t _ ht).1 n (fun j => .long (f j))) (fun q => by cases q) (by show ¬ (i < 0 ∨ (arrV _ _ _).slots.size ≤ _); rw [arrV_size]; exact h1) rfl rfl hd fun H1 e z oq => ?_
  refine k H1 _ ls (ax_set X.i hH ha hna (fun _ => ?_) z oq) (ax_locs hl (ax_bsle X.i hna)) hv
  show H1[G.ph a]? = some (vp_cell (G.ca t) (n, .inr (.inl (vp_updL f i.toNatClampNeg x))))
  rw [e]
  show some ((vp_cell (G.ca t) (n, .inr (.inl f))).setSlot _ _) = _
  rw [vp_cell_l, vp_cell_l, arrV_store]
  congr 2
  funext q
  by_cases hq : q = i.toNatClampNeg
  · subst hq
    simp [updV, vp_updL]
    try rfl
  · simp [updV, vp_updL, hq]
theorem AW.aastN (X : ax_X p m meth c s args V G cc nL own pl ret) {C : String} {f : Nat → Option Nat} (ha : h[a]? = some (.inl (t, n, .inr (.inr (.inr (.inr f)))))) (ht : V.tl[t]? = some (.object C)) (hna : ax_nC ≤ a) (hi : i = nI j) (hj : j < n) (hn : n < 2 ^ 31) (hd : decode cc pc = .ok (.aastore, 1)) (k : AW p l e R s m args below meth c V G nL (h.set a (.inl (t, n, .inr (.inr (.inr (.inr (va_up f j none))))))) cells slots Q (pc + 1) lv r) : AW p l e R s m args below meth c V G nL h cells slots Q pc lv (.null :: .int i :: .ref a :: r) := by
  obtain ⟨h1, h2⟩ := ax_inn hi hj hn
  subst h2
  intro H locs ls hH hl hv
  refine va_WaastN (C := C) X.x X.b (hH.1 a _ ha rfl) ((X.k.2.1 t _ ht).1 n (fun j => va_rf (ax_o G.ph (f j)))) (fun q => by cases q) (by show ¬ (i < 0 ∨ (arrV _ _ _).slots.size ≤ _); rw [arrV_size]; exact h1) rfl rfl hd fun H1 e z oq => ?_
  refine k H1 _ ls (ax_set X.i hH ha hna (fun _ => ?_) z oq) (ax_locs hl (ax_bsle X.i hna)) hv
  show H1[G.ph a]? = some (vp_cell (G.ca t) (n, .inr (.inr (.inr (.inr (fun q => ax_o G.ph (va_up f i.toNatClampNeg none q)))))))
  rw [e]
  show some ((vp_cell (G.ca t) (n, .inr (.inr (.inr (.inr (fun q => ax_o G.ph (f q))))))).setSlot _ _) = _
  rw [vp_cell_q, vp_cell_q, arrV_store]
  congr 2
  funext q
  by_cases hq : q = i.toNatClampNeg
  · subst hq
    simp [updV, va_up, va_rf, ax_o]
  · simp [updV, va_up, hq]
/-- a reference to an object of class ci is stored: that class is the array's component's, or can be cast to it -/
theorem AW.aast (X : ax_X p m meth c s args V G cc nL own pl ret) {E : String} {f : Nat → Option Nat} {b ci : Nat} {fs : List Value} {rc : vw_C} (ha : h[a]? = some (.inl (t, n, .inr (.inr (.inr (.inr f)))))) (ht : V.tl[t]? = some (.object E)) (hna : ax_nC ≤ a) (hb : h[b]? = some (.inr (ci, fs))) (hc : V.cl[ci]? = some rc) (hca : rc.1 = E ∨ (rc.1, E) ∈ V.ct) (hi : i = nI j) (hj : j < n) (hn : n < 2 ^ 31) (hd : decode cc pc = .ok (.aastore, 1)) (k : AW p l e R s m args below meth c V G nL (h.set a (.inl (t, n, .inr (.inr (.inr (.inr (va_up f j (some b)))))))) cells slots Q (pc + 1) lv r) : AW p l e R s m args below meth c V G nL h cells slots Q pc lv (.ref b :: .int i :: .ref a :: r) := by
  obtain ⟨h1, h2⟩ := ax_inn hi hj hn
  subst h2
  have hlt : i.toNatClampNeg < n := hj
  have h0 : ¬ i < 0 := fun q => h1 (Or.inl q)
  intro H locs ls hH hl hv
  obtain ⟨r', hr', cellV, g1, g2, g3, -⟩ := hH.1 b _ hb rfl
  have hcls := (X.k.u hc).2
  obtain ⟨kA, comp, k1, k2, k3, -⟩ := (X.k.2.1 t _ ht).2
  obtain ⟨kE, hkE, -⟩ := Vm.findClass_spec k3
  obtain ⟨kC, hkC, -⟩ := hcls.2
  have has : s.vm.assignable (G.1.1 ci) comp = true := by
    rcases hca with hca | hca
    · rw [← hca] at k3
      cases hcls.1.symm.trans k3
      exact va_assign hcls
    · obtain ⟨c0, t1, f1, f2, f3⟩ := Cond.castable_spec (va_Nw.use (A := args) rfl (X.k.2.2.2.2.1 _ hca))
      cases hcls.1.symm.trans f1
      cases k3.symm.trans f2
      exact f3
  refine W.aast X.x X.b (hH.1 a _ ha rfl) (fun q h => by cases h) (fun h => by cases h) k1 k2 rfl hkE ⟨h0, by show _ < (arrV _ _ _).slots.size; rw [arrV_size]; exact hlt⟩ g1 (fun q h => by rw [g3] at h; cases h) (by rw [g2]; exact hkC) (by rw [g2]; exact has) rfl rfl hd fun H1 e z oq => ?_
  refine k H1 _ ls (ax_set X.i hH ha hna (fun _ => ?_) z oq) (ax_locs hl (ax_bsle X.i hna)) hv
  show H1[G.ph a]? = some (vp_cell (G.ca t) (n, .inr (.inr (.inr (.inr (fun q => ax_o G.ph (va_up f i.toNatClampNeg (some b) q)))))))
  rw [e]
  show some ((vp_cell (G.ca t) (n, .inr (.inr (.inr (.inr (fun q => ax_o G.ph (f q))))))).setSlot _ _) = _
  rw [vp_cell_q, vp_cell_q, arrV_store]
  congr 2
  funext q
  by_cases hq : q = i.toNatClampNeg
  · subst hq
    simp [updV, va_up, va_rf, ax_o]
  · simp [updV, va_up, hq]
theorem AW.get (X : ax_X p m meth c s args V G cc nL own pl ret) {idx ci k : Nat} {fs : List Value} {v : Value} (ha : h[a]? = some (.inr (ci, fs))) (hf : pl.1 idx ci = some k) (hv1 : fs[k]? = some v) (hd : decode cc pc = .ok (.getfield idx, 3)) (kk : AW p l e R s m args below meth c V G nL h cells slots Q (pc + 3) lv (v :: r)) : AW p l e R s m args below meth c V G nL h cells slots Q pc lv (.ref a :: r) := fun H locs ls hH hl hv => ax_getf X hH ha hf hv1 hd (kk H locs ls hH hl hv)
/-- what is known of a class whose fields are written -/
def ax_L (V : ax_V) (C : String) (T : u_T) (N : Nat) : Prop := (∀ w ∈ u_ws C T N, w ∈ V.ts) ∧ (∃ ty : Nat → FieldType, ∀ k, k < N → parseFieldDescriptor (T k).2.2.1 = some (ty k)) ∧ ∀ a, a < N → ∀ b, b < N → a ≠ b → (T a).2.1 ≠ (T b).2.1
theorem ax_setmap (ph : Nat → Nat) (fs : List Value) (k : Nat) (v : Value) : (fs.set k v).map (ax_v ph) = (fs.map (ax_v ph)).set k (ax_v ph v) := by rw [List.map_set]
theorem AW.put (X : ax_X p m meth c s args V G cc nL own pl ret) {idx ci k N : Nat} {C : String} {T : u_T} {fs : List Value} {v : Value} {ty : FieldType} (ha : h[a]? = some (.inr (ci, fs))) (hna : ax_nC ≤ a) (hf : pl.1 idx ci = some k) (hc : V.cl[ci]? = some (C, T, N)) (hL : ax_L V C T N) (hfin : (T k).2.2.2 = false) (hty : parseFieldDescriptor (T k).2.2.1 = some ty) (hn : narrow ty (ax_v G.ph v) = ax_v G.ph v) (hfit : fits ty (ax_v G.ph v) = true) (hk : k < fs.length) (hd : decode cc pc = .ok (.putfield idx, 3)) (kk : AW p l e R s m args below meth c V G nL (h.set a (.inr (ci, fs.set k v))) cells slots Q (pc + 3) lv r) : AW p l e R s m args below meth c V G nL h cells slots Q pc lv (v :: .ref a :: r) := by
  obtain ⟨C', T', N', ref, h1, h2, h3, h7⟩ := X.f idx ci k hf
  cases hc.symm.trans h1
  obtain ⟨h4, ⟨ty0, h5⟩, h6⟩ := hL
  intro H locs ls hH hl hv
  have hap := va_apart (own := own) X.ts h4 ty0 h5 h6 X.k.K hc
  obtain ⟨r', e1, cell, q1, q2, q3, q4⟩ := hH.1 a _ ha rfl
  have hr : r' = (C, T, N) := Option.some.inj (e1.symm.trans hc)
  subst hr
  obtain ⟨hS, hfc, kC, hkC, hkind⟩ := X.k.u hc
  obtain ⟨cf, kf, fi, f, hi, hsl⟩ := hS k h2
  have hlay := X.ts _ (h4 _ (u_in_lay h2))
  unfold u_lay at hlay
  rw [if_neg (by rw [hfin]; decide)] at hlay
  have hst := (u_facts hfc hkC (u_lays X.ts h4 h2) hi).1
  have hsd := u_store hfc hkC hkind hlay hi hty hn hfit
  refine W.putK X.x X.b (f := f) ⟨X.ow, X.ts _ h3, ⟨_, _, _, ax_same X.ts h7 _ hi⟩, hst⟩ (by rw [q2]; exact hsd) q1 q3 (by rw [hsl]; exact k2_hasslot (q4 k h2)) rfl rfl hd fun H' e1 e2 e3 => ?_
  refine kk H' _ ls (ax_set X.i hH ha hna (fun _ => ?_) e2 e3) (ax_locs hl (ax_bsle X.i hna)) hv
  rw [hsl] at e1
  refine ⟨_, hc, t_OB.to (V := updV (vp_V (fs.map (ax_v G.ph))) k (ax_v G.ph v)) ⟨_, e1, q2, q3, t_set q4 hap h2 _⟩ (fun j _ => ?_)⟩
  rw [vp_updV_set (by rw [List.length_map]; exact hk), ← ax_setmap]
theorem AW.putF (X : ax_X p m meth c s args V G cc nL own pl ret) {idx ci k N : Nat} {C : String} {T : u_T} {fs : List Value} {v : Value} {ty : FieldType} (ha : h[a]? = some (.inr (ci, fs))) (hna : ax_nC ≤ a) (hf : pl.1 idx ci = some k) (hc : V.cl[ci]? = some (C, T, N)) (hL : ax_L V C T N) (hfin : (T k).2.2.2 = true) (hini : pl.2.2 = true) (hown : (T k).1 = own) (hty : parseFieldDescriptor (T k).2.2.1 = some ty) (hn : narrow ty (ax_v G.ph v) = ax_v G.ph v) (hfit : fits ty (ax_v G.ph v) = true) (hk : k < fs.length) (hd : decode cc pc = .ok (.putfield idx, 3)) (kk : AW p l e R s m args below meth c V G nL (h.set a (.inr (ci, fs.set k v))) cells slots Q (pc + 3) lv r) : AW p l e R s m args below meth c V G nL h cells slots Q pc lv (v :: .ref a :: r) := by
  obtain ⟨C', T', N', ref, h1, h2, h3, h7⟩ := X.f idx ci k hf
  cases hc.symm.trans h1
  obtain ⟨h4, ⟨ty0, h5⟩, h6⟩ := hL
  intro H locs ls hH hl hv
  have hap := va_apart (own := own) X.ts h4 ty0 h5 h6 X.k.K hc
  obtain ⟨r', e1, cell, q1, q2, q3, q4⟩ := hH.1 a _ ha rfl
  have hr : r' = (C, T, N) := Option.some.inj (e1.symm.trans hc)
  subst hr
  obtain ⟨hS, hfc, kC, hkC, hkind⟩ := X.k.u hc
  obtain ⟨cf, kf, fi, f, hi, hsl⟩ := hS k h2
  have hlay := u_lays X.ts h4 h2
  have hst := (u_facts hfc hkC hlay hi).1
  have hsd := u_fits hfc hkC hkind hlay hi hty hn hfit
  have hcf : m.cls = cf := by
    have hlay2 := X.ts _ (h4 _ (u_in_lay h2))
    unfold u_lay at hlay2
    rw [if_pos hfin] at hlay2
    obtain ⟨_, _, c', _, _, _, -, -, hf', -, -, -, hown2, -⟩ := Cond.laysFinal_spec hlay2
    have e9 : c' = cf := by have := hi.symm.trans hf'; simp at this; exact this.1.symm
    rw [hown] at hown2
    rw [← e9]; exact Option.some.inj (X.ow.symm.trans hown2)
  refine W.putFinK X.x X.b X.ow (X.ts _ h3) (ax_same X.ts h7 _ hi) hst hcf (X.ini hini) (by rw [q2]; exact hsd) q1 q3 (by rw [hsl]; exact k2_hasslot (q4 k h2)) rfl rfl hd fun H' e1 e2 e3 => ?_
  refine kk H' _ ls (ax_set X.i hH ha hna (fun _ => ?_) e2 e3) (ax_locs hl (ax_bsle X.i hna)) hv
  rw [hsl] at e1
  refine ⟨_, hc, t_OB.to (V := updV (vp_V (fs.map (ax_v G.ph))) k (ax_v G.ph v)) ⟨_, e1, q2, q3, t_set q4 hap h2 _⟩ (fun j _ => ?_)⟩
  rw [vp_updV_set (by rw [List.length_map]; exact hk), ← ax_setmap]
theorem AW.gets (X : ax_X p m meth c s args V G cc nL own pl ret) {idx : Nat} {C nm ds : String} {v : Value} (hz : (C, nm, ds, v) ∈ V.zs) (hlink : Cond.fieldLink own idx C nm ds ∈ V.ts) (hd : decode cc pc = .ok (.getstatic idx, 3)) (kk : AW p l e R s m args below meth c V G nL h cells slots Q (pc + 3) lv (v :: r)) : AW p l e R s m args below meth c V G nL h cells slots Q pc lv r := by
  intro H locs ls hH hl hv
  obtain ⟨cf, kf, fi, f, a, cell, h1, h2, h3, h4, h5, h6, h7, h8⟩ := X.k.2.2.1 _ hz
  exact W.gets X.x X.b X.ow (X.ts _ hlink) h1 h2 h3 h4 (by rw [hH.2.2.2 a (Nat.not_le.mp h8)]; exact h5) (fun e => by rw [e] at h6; cases h6) h7 rfl hd (kk H locs ls hH hl hv)
/-- a static array is read -/
theorem AW.tiald (X : ax_X p m meth c s args V G cc nL own pl ret) {N : Nat} {f : Nat → Value} (hz : (a, .int, N, f) ∈ V.ta) (hi : i = nI j) (hj : j < N) (hn : N < 2 ^ 31) (hd : decode cc pc = .ok (.iaload, 1)) (k : AW p l e R s m args below meth c V G nL h cells slots Q (pc + 1) lv (f j :: r)) : AW p l e R s m args below meth c V G nL h cells slots Q pc lv (.int i :: .ref a :: r) := by
  obtain ⟨g1, g2⟩ := ax_inn hi hj hn
  intro H locs ls hH hl hv
  obtain ⟨cell, h1, h2, h3, h4, h5, h6, h7⟩ := X.k.2.2.2.1 _ hz
  refine W.iald X.x X.b (by rw [hH.2.2.2 _ (Nat.not_le.mp h7)]; exact h1) h2 h3 ?_ (v := ax_v G.ph (f j)) (by rw [g2]; exact h6 j hj) rfl rfl hd (k H locs ls hH hl hv)
  rintro (q | q)
  · exact g1 (Or.inl q)
  · rw [g2] at q
    have q4 : N ≤ cell.slots.size := h4
    omega
theorem AW.taald (X : ax_X p m meth c s args V G cc nL own pl ret) {C : String} {N : Nat} {f : Nat → Value} (hz : (a, .object C, N, f) ∈ V.ta) (hi : i = nI j) (hj : j < N) (hn : N < 2 ^ 31) (hd : decode cc pc = .ok (.aaload, 1)) (k : AW p l e R s m args below meth c V G nL h cells slots Q (pc + 1) lv (f j :: r)) : AW p l e R s m args below meth c V G nL h cells slots Q pc lv (.int i :: .ref a :: r) := by
  obtain ⟨g1, g2⟩ := ax_inn hi hj hn
  intro H locs ls hH hl hv
  obtain ⟨cell, h1, h2, h3, h4, h5, h6, h7⟩ := X.k.2.2.2.1 _ hz
  refine W.aald (ty := .object C) X.x X.b (by rw [hH.2.2.2 _ (Nat.not_le.mp h7)]; exact h1) h2 rfl h3 ?_ (v := ax_v G.ph (f j)) (by rw [g2]; exact h6 j hj) rfl rfl hd (k H locs ls hH hl hv)
  rintro (q | q)
  · exact g1 (Or.inl q)
  · rw [g2] at q
    have q4 : N ≤ cell.slots.size := h4
    omega
theorem AW.talen (X : ax_X p m meth c s args V G cc nL own pl ret) {ty : FieldType} {N : Nat} {f : Nat → Value} (hz : (a, ty, N, f) ∈ V.ta) (hd : decode cc pc = .ok (.arraylength, 1)) (k : AW p l e R s m args below meth c V G nL h cells slots Q (pc + 1) lv (.int (nI N) :: r)) : AW p l e R s m args below meth c V G nL h cells slots Q pc lv (.ref a :: r) := by
  intro H locs ls hH hl hv
  obtain ⟨cell, h1, h2, h3, h4, h5, h6, h7⟩ := X.k.2.2.2.1 _ hz
  exact W.alen X.x X.b (by rw [hH.2.2.2 _ (Nat.not_le.mp h7)]; exact h1) h2 h5 rfl rfl hd (k H locs ls hH hl hv)
end AXS
end
section
/-! RULES: new cells, calls, ends; 'AM': a method's contract over the abstract heap -/
def ax_Q (V : ax_V) (G : ax_G) (Qa : Option Value → List va_E → Prop) : Array Value → State → Outcome → State → Prop := fun _ _ o t =>
  ∃ (v : Option Value) (h' : List va_E), o = .returned (v.map (ax_v G.ph)) ∧ Qa v h' ∧ ax_H V G h' t.heap
def ax_R (d mc ms : Nat) : Room := { frames := d, cells := mc, slots := ms, locals := 40 * d }
/-- method y, on these arguments and this abstract heap: it returns, and the answer and the heap then satisfy Qa; d: how deep it calls; mc, ms: at most so many cells and slots come -/
def AM (l : Launch) (V : ax_V) (G : ax_G) (y : MethodName) (cc : ByteArray) (maxL : Nat) (ret : Option FieldType) (d mc ms : Nat) (As : List Value) (h : List va_E) (Qa : Option Value → List va_E → Prop) : Prop :=
  ax_I G → Met l y (.code y cc maxL ret :: V.ts) (ax_R d mc ms) (va_Pc (As.map (ax_v G.ph)) (fun U => ax_K V G U ∧ ax_H V G h U.heap)) (ax_Q V G Qa) mc ms (fun q => G.bs ≤ q)
theorem ax_args (ph : Nat → Nat) : ∀ (i : Nat) (vs : List Value), lv_args i (vs.map (ax_v ph)) = ax_lv ph (lv_args i vs)
  | _, [] => rfl
  | i, v :: r => by
    show (i, ax_v ph v) :: lv_args _ (r.map (ax_v ph)) = (i, ax_v ph v) :: ax_lv ph (lv_args _ r)
    rw [ax_cat, ax_args]
theorem ax_sl (ph : Nat → Nat) : ∀ vs : List Value, (lg_sl (vs.map (ax_v ph))).length = (lg_sl vs).length
  | [] => rfl
  | v :: r => by
    have ih := ax_sl ph r
    unfold lg_sl at ih ⊢
    rw [List.map_cons, List.flatMap_cons, List.flatMap_cons, List.length_append, List.length_append, ih, ax_cat]
    by_cases hc : v.category = 2 <;> simp [hc]
section AXC
variable {p : Program} {l : Launch} {e : Env} {R : Room} {s : State} {m : MethodId} {args : Array Value} {below : List Frame} {meth : Method} {c : Code} {V : ax_V} {G : ax_G} {cc : ByteArray} {nL : Nat} {own : String} {pl : ax_pool} {ret : Option FieldType} {cells slots : Nat} {Q : State → Prop}
variable {pc : Nat} {lv : List (Nat × Value)} {r : List Value} {h : List va_E} {a t n j : Nat} {i : Int32}
theorem AM.of {y : MethodName} {maxL d mc ms : Nat} {As : List Value} {Qa : Option Value → List va_E → Prop} (hy : plainName y.cls = true) (hG : GoodIn V.ts V.ts) (hF : ax_F V y.cls pl.1) (hPL : ax_PL V y.cls pl.2.1) (hini : pl.2.2 = true → y.name = "<init>") (hs : (lg_sl As).length ≤ maxL)
    (body : ∀ (p : Program) (e : Env) (s : State) (m : MethodId) (args : Array Value) (below : List Frame) (meth : Method) (c : Code), ax_X p m meth c s args V G cc maxL y.cls pl ret →
      AW p l e (ax_R d mc ms) s m args below meth c V G maxL h 0 0 (MQ below (ax_Q V G Qa) args s mc ms (fun q => G.bs ≤ q)) 0 (lv_args 0 As) []) : AM l V G y cc maxL ret d mc ms As h Qa := by
  intro hI
  refine Met.ofW (cc := cc) (maxL := maxL) (ret := ret) hy rfl ?_
  intro p e s m args below meth c s₁ B hml hv
  obtain ⟨rfl, hK, hH⟩ := hv
  have hts := atoms_spec (ws := .code y cc maxL ret :: V.ts) B.pre
  have X : ax_X p m meth c s ((As.map (ax_v G.ph)).toArray) V G cc maxL y.cls pl ret := ⟨B.exec, B.bytes, hml, findClass_of_methodNamed B.named, fun w hw => hts w (List.mem_cons_of_mem _ hw), hK, hI, hF, hPL, hG, B.notSynchronized, B.returns, fun q => (name_of_methodNamed B.named B.method).1.trans (hini q)⟩
  have hl := lv_entry (As.map (ax_v G.ph)) (n := maxL) (by rw [ax_sl]; exact hs)
  rw [lg_entry_eq]
  generalize (lg_sl (As.map (ax_v G.ph)) ++ List.replicate (maxL - (lg_sl (As.map (ax_v G.ph))).length) Slot.unset).toArray = ls at hl ⊢
  rw [ax_args] at hl
  exact body p e s m _ below meth c X s.heap [] ls hH (fun q hq => by cases hq) hl
theorem AW.widen {k n : Nat} (h1 : cells ≤ k) (h2 : slots ≤ n) (kk : AW p l e R s m args below meth c V G nL h k n Q pc lv r) : AW p l e R s m args below meth c V G nL h cells slots Q pc lv r := fun H locs ls hH hl hv => W.widen h1 h2 (kk H locs ls hH hl hv)
theorem AW.eq {h' : List va_E} (e1 : h = h') (kk : AW p l e R s m args below meth c V G nL h' cells slots Q pc lv r) : AW p l e R s m args below meth c V G nL h cells slots Q pc lv r := e1 ▸ kk
/-- the locals may be forgotten and ordered anew -/
theorem AW.sub {lv' : List (Nat × Value)} (e1 : ∀ q ∈ lv', q ∈ lv) (kk : AW p l e R s m args below meth c V G nL h cells slots Q pc lv' r) : AW p l e R s m args below meth c V G nL h cells slots Q pc lv r := fun H locs ls hH hl hv => kk H locs ls hH hl ⟨hv.1, hv.2.1, fun q hq => by
  obtain ⟨q1, h1, h2⟩ := List.mem_map.mp hq
  exact hv.2.2 q (List.mem_map.mpr ⟨q1, e1 q1 h1, h2⟩)⟩
theorem AW.new (X : ax_X p m meth c s args V G cc nL own pl ret) {idx ci N : Nat} {C : String} {T : u_T} {fs : List Value} {ty : Nat → FieldType} (hc : V.cl[ci]? = some (C, T, N)) (hlay : ∀ w ∈ u_ws C T N, w ∈ V.ts) (hty : ∀ k, k < N → parseFieldDescriptor (T k).2.2.1 = some (ty k)) (hlink : Cond.classLink own idx C ∈ V.ts) (hinst : Cond.instantiable C N ∈ V.ts) (hini : Cond.initialized C ∈ V.ts) (hfs : ∀ j, j < N → defaultValue (ty j) = vp_V (fs.map (ax_v G.ph)) j) (hcells : cells + 1 ≤ R.cells) (hslots : slots + N ≤ R.slots) (hd : decode cc pc = .ok (.new idx, 3)) (kk : AW p l e R s m args below meth c V G nL (h ++ [.inr (ci, fs)]) (cells + 1) (slots + N) Q (pc + 3) lv (.ref h.length :: r)) : AW p l e R s m args below meth c V G nL h cells slots Q pc lv r := by
  intro H locs ls hH hl hv
  have hKn := X.k.u hc
  refine W.newcK X.x X.b X.ow (X.ts _ hlink) (X.ts _ hinst) (X.ts _ hini) rfl hd hcells hslots hKn.2.1 rfl fun H1 kC hkC e1 z1 o1 => ?_
  obtain ⟨g1, g2⟩ := ax_new (c := .inr (ci, fs)) X.i hH ⟨_, hc, (u_born ty X.ts hlay hKn hkC e1 hty).to hfs⟩ z1 o1
  have k1 := kk H1 locs ls g1 hl hv
  rw [List.map_cons, show ax_v G.ph (.ref h.length) = .ref (G.ph h.length) from rfl, g2] at k1
  exact k1
theorem AW.newa (X : ax_X p m meth c s args V G cc nL own pl ret) {atype : ArrayType} {x : Int32} {N : Nat} {a0 : (Nat → Int32) ⊕ (Nat → Int64) ⊕ (Nat → UInt32) ⊕ (Nat → UInt64) ⊕ (Nat → Option Nat)} (harr : Cond.arrayClass (newarray.typeOf atype) ∈ V.ts) (ht : V.tl[t]? = some (newarray.typeOf atype)) (ha : ∀ cA : ClassId, vp_cell cA (ax_a G.ph (N, a0)) = arrV cA N (fun _ => defaultValue (newarray.typeOf atype))) (hx : x = nI N) (hN : N < 2 ^ 16) (hcells : cells + 1 ≤ R.cells) (hslots : slots + N ≤ R.slots) (hprim : ∀ (cA : ClassId) (U : State), va_RA U cA (newarray.typeOf atype) → U.vm.findClass ("[" ++ (newarray.typeOf atype).toString) = some cA) (hd : decode cc pc = .ok (.newarray atype, 2)) (kk : AW p l e R s m args below meth c V G nL (h ++ [.inl (t, N, a0)]) (cells + 1) (slots + N) Q (pc + 2) lv (.ref h.length :: r)) : AW p l e R s m args below meth c V G nL h cells slots Q pc lv (.int x :: r) := by
  intro H locs ls hH hl hv
  subst hx
  refine va_newaK X.x X.b (X.ts _ harr) rfl hd (n := nI N) (N := N) rfl (nI_pos (by omega)) (nI_clamp (by omega)) (by have : componentBytes (newarray.typeOf atype) ≤ 8 := (by cases atype <;> decide); calc _ ≤ N * 8 := Nat.mul_le_mul_left _ this
    _ ≤ _ := by omega) hcells hslots rfl fun H1 cA e1 z1 o1 hA hfc => ?_
  have hcA : cA = G.ca t := Option.some.inj (hfc.symm.trans (hprim _ _ (X.k.2.1 t _ ht).2))
  subst hcA
  obtain ⟨g1, g2⟩ := ax_new (c := .inl (t, N, a0)) X.i hH (by show H1[H.size]? = some (vp_cell (G.ca t) (ax_a G.ph (N, a0))); rw [ha]; exact e1) z1 o1
  have k1 := kk H1 locs ls g1 hl hv
  rw [List.map_cons, show ax_v G.ph (.ref h.length) = .ref (G.ph h.length) from rfl, g2] at k1
  exact k1
theorem AW.objInit (X : ax_X p m meth c s args V G cc nL own pl ret) {idx : Nat} (hlink : Cond.methodLink own idx Lib.objectInit ∈ V.ts) (hinst : Cond.instanceMethod Lib.objectInit ∈ V.ts) (hcode : Cond.code Lib.objectInit ⟨#[0xb1]⟩ 1 none ∈ V.ts) (hd : decode cc pc = .ok (.invokespecial idx, 3)) (hframes : 1 ≤ R.frames) (hlocals : 20 ≤ R.locals) (hr : (r.map fun v => v.category).sum ≤ 8) (kk : AW p l e R s m args below meth c V G nL h cells slots Q (pc + 3) lv r) : AW p l e R s m args below meth c V G nL h cells slots Q pc lv (.ref a :: r) := by
  intro H locs ls hH hl hv
  refine W.objInit X.x X.b X.ow (X.ts _ hlink) (X.ts _ hinst) (X.ts _ hcode) rfl (by rw [X.ml]; exact hv.1) rfl hd hframes ?_ (kk H locs ls hH hl hv)
  have h1 := lv_room (m := m) (pc := pc) (ls := ls) (rest := (.ref a :: r).map (ax_v G.ph)) (st := r.map (ax_v G.ph)) (by rw [List.map_map]; exact (congrArg (fun f => (r.map f).sum) (funext fun v => ax_cat G.ph v)) ▸ hr)
  exact Nat.le_trans (Nat.add_le_add_right h1 12) hlocals
/-- what a call rests on -/
def ax_CB (V : ax_V) (own : String) (index : Nat) (y : MethodName) (bytes : ByteArray) (maxL : Nat) (ret : Option FieldType) (n : Nat) : Prop :=
  Cond.methodLink own index y ∈ V.ts ∧ Cond.initialized y.cls ∈ V.ts ∧ Cond.code y bytes maxL ret ∈ V.ts ∧ (y.cls ≠ "java/lang/invoke/MethodHandle" ∧ y.cls ≠ "java/lang/invoke/VarHandle" ∧ (parseMethodDescriptor y.desc).map (fun d => d.parameters.length) = some n)
theorem ax_CB.b (X : ax_X p m meth c s args V G cc nL own pl ret) {index : Nat} {y : MethodName} {bytes : ByteArray} {maxL d mc ms : Nat} {ret' : Option FieldType} (hw : ax_CB V own index y bytes maxL ret' n) (hR : d + 1 ≤ R.frames ∧ 19 + maxL + 40 * d ≤ R.locals) : CallB R s args own index y bytes maxL ret' (.code y bytes maxL ret' :: V.ts) (ax_R d mc ms) mc ms n := by
  obtain ⟨h1, h2, h3, h4⟩ := hw
  refine callB_of n X.ts (fun w hw => ?_) rfl rfl rfl (X.ts _ h2) (X.ts _ h1) h4 ⟨hR.1, ?_⟩
  · rcases List.mem_cons.mp hw with e1 | e1
    · rw [e1]; exact X.gd _ h3
    · exact X.gd _ e1
  · show 8 + (maxL + 11) + 40 * d ≤ R.locals
    omega
theorem ax_blind {As : List Value} : FrameBlind (va_Pc (As.map (ax_v G.ph)) (fun U => ax_K V G U ∧ ax_H V G h U.heap)) := fun a U g mk q => ⟨q.1, q.2.1.moved (U := U.calling g mk a) (State.WarmedH.refl U), q.2.2⟩
theorem AW.callR {mc ms : Nat} {Qa : Option Value → List va_E → Prop} {st : List Value} {a' : Array Value} (hr : ∀ (H : Heap) (locs : List Loc) (ls : Array Slot), ax_H V G h H → lv_has ls nL (ax_lv G.ph lv) → va_Run p l e R s m args below meth c H locs cells slots mc ms (F0 m pc ls (st.map (ax_v G.ph))) (r.map (ax_v G.ph)) (ax_Q V G Qa a') (fun q => G.bs ≤ q))
    (kk : ∀ (v : Option Value) (h' : List va_E), Qa v h' → AW p l e R s m args below meth c V G nL h' (cells + mc) (slots + ms) Q (pc + 3) lv (v.toList ++ r)) : AW p l e R s m args below meth c V G nL h cells slots Q pc lv st := by
  intro H locs ls hH hl hv T hT X0
  obtain ⟨v, st₀, t, T', L, h0, X', hL, e1, e2, ⟨v', h', hv', hq, hH'⟩, st1⟩ := hr H locs ls hH hv T hT X0
  cases hv'
  obtain ⟨t2, a1, b1⟩ := kk v' h' hq t.heap (locs ++ L) ls hH' (fun q hq => by
    rcases List.mem_append.mp hq with z | z
    · exact hl q z
    · exact hL q z) hv T' e1 X'
  refine ⟨t2, st1 t2 ?_, b1⟩
  have e3 : (v'.map (ax_v G.ph)).toList ++ r.map (ax_v G.ph) = (v'.toList ++ r).map (ax_v G.ph) := by cases v' <;> rfl
  show Steps p.tables e below (T'.setTop (F0 m (pc + 3) ls ((v'.map (ax_v G.ph)).toList ++ r.map (ax_v G.ph)))) t2
  rw [e3]
  exact a1
theorem ax_rm8 {ls : Array Slot} {st : List Value} (hr : (r.map fun v => v.category).sum ≤ 8) : 2 * (F0 m pc ls st).monitorRoom + ((r.map (ax_v G.ph)).map fun v => v.category).sum ≤ 8 :=
  lv_room (by rw [List.map_map]; exact (congrArg (fun f => (r.map f).sum) (funext fun v => ax_cat G.ph v)) ▸ hr)
theorem AW.callS (X : ax_X p m meth c s args V G cc nL own pl ret) {index : Nat} {y : MethodName} {bytes : ByteArray} {maxL d mc ms : Nat} {ret' : Option FieldType} {As : List Value} {Qa : Option Value → List va_E → Prop} (hM : AM l V G y bytes maxL ret' d mc ms As h Qa) (hw : ax_CB V own index y bytes maxL ret' n) (hst : Cond.static y ∈ V.ts) (hn : As.length = n) (hR : d + 1 ≤ R.frames ∧ 19 + maxL + 40 * d ≤ R.locals) (hr : (r.map fun v => v.category).sum ≤ 8) (hf : cells + mc ≤ R.cells ∧ slots + ms ≤ R.slots) (hd : decode cc pc = .ok (.invokestatic index, 3))
    (kk : ∀ (v : Option Value) (h' : List va_E), Qa v h' → AW p l e R s m args below meth c V G nL h' (cells + mc) (slots + ms) Q (pc + 3) lv (v.toList ++ r)) : AW p l e R s m args below meth c V G nL h cells slots Q pc lv (As.reverse ++ r) :=
  AW.callR (fun H locs ls hH hv => va_runS (As := As.map (ax_v G.ph)) ⟨X.x, X.b, X.ml, X.ow, X.ts⟩ (hM X.i) ⟨hw.b X hR, X.ts _ hst⟩ ⟨ax_blind, fun U hU hW => ⟨rfl, X.k.moved hW, by rw [hU]; exact hH⟩⟩ rfl (by rw [List.length_map]; exact hn) hv.1 (by rw [List.map_append, List.map_reverse]) (ax_rm8 hr) hd hf) kk
theorem AW.callI (X : ax_X p m meth c s args V G cc nL own pl ret) {index : Nat} {y : MethodName} {bytes : ByteArray} {maxL d mc ms : Nat} {As : List Value} {Qa : Option Value → List va_E → Prop} (hM : AM l V G y bytes maxL none d mc ms (.ref a :: As) h Qa) (hw : ax_CB V own index y bytes maxL none n) (hy : y.name = "<init>") (hin : Cond.instanceMethod y ∈ V.ts) (hn : As.length = n) (hR : d + 1 ≤ R.frames ∧ 19 + maxL + 40 * d ≤ R.locals) (hr : (r.map fun v => v.category).sum ≤ 8) (hf : cells + mc ≤ R.cells ∧ slots + ms ≤ R.slots) (hd : decode cc pc = .ok (.invokespecial index, 3))
    (kk : ∀ (v : Option Value) (h' : List va_E), Qa v h' → AW p l e R s m args below meth c V G nL h' (cells + mc) (slots + ms) Q (pc + 3) lv (v.toList ++ r)) : AW p l e R s m args below meth c V G nL h cells slots Q pc lv (As.reverse ++ .ref a :: r) :=
  AW.callR (fun H locs ls hH hv => va_runI (b := G.ph a) (As := As.map (ax_v G.ph)) ⟨X.x, X.b, X.ml, X.ow, X.ts⟩ (hM X.i) ⟨hw.b X hR, hy, X.ts _ hin⟩ ⟨ax_blind (As := .ref a :: As), fun U hU hW => ⟨rfl, X.k.moved hW, by rw [hU]; exact hH⟩⟩ rfl (by rw [List.length_map]; exact hn) hv.1 (by rw [List.map_append, List.map_reverse]; rfl) (ax_rm8 hr) hd hf) kk
theorem AW.callV (X : ax_X p m meth c s args V G cc nL own pl ret) {index ci : Nat} {y : MethodName} {bytes : ByteArray} {maxL d mc ms : Nat} {ret' : Option FieldType} {As fs : List Value} {rc : vw_C} {Qa : Option Value → List va_E → Prop} (hM : AM l V G y bytes maxL ret' d mc ms (.ref a :: As) h Qa) (hw : ax_CB V own index y bytes maxL ret' n) (ha : h[a]? = some (.inr (ci, fs))) (hc : V.cl[ci]? = some rc) (hin : Cond.instanceMethod y ∈ V.ts) (hse : Cond.selects rc.1 y y ∈ V.ts) (hn : As.length = n) (hR : d + 1 ≤ R.frames ∧ 19 + maxL + 40 * d ≤ R.locals) (hr : (r.map fun v => v.category).sum ≤ 8) (hf : cells + mc ≤ R.cells ∧ slots + ms ≤ R.slots) (hd : decode cc pc = .ok (.invokevirtual index, 3))
    (kk : ∀ (v : Option Value) (h' : List va_E), Qa v h' → AW p l e R s m args below meth c V G nL h' (cells + mc) (slots + ms) Q (pc + 3) lv (v.toList ++ r)) : AW p l e R s m args below meth c V G nL h cells slots Q pc lv (As.reverse ++ .ref a :: r) :=
  AW.callR (fun H locs ls hH hv => va_runV (C := rc.1) (b := G.ph a) (As := As.map (ax_v G.ph)) ⟨X.x, X.b, X.ml, X.ow, X.ts⟩ (hM X.i) ⟨hw.b X hR, X.ts _ hin, X.ts _ hse⟩ ⟨ax_blind (As := .ref a :: As), va_recv (q0 := 0) X.k.K (ax_P1 hH ha rfl) hc rfl, fun U hU hW => ⟨rfl, X.k.moved hW, by rw [hU]; exact hH⟩⟩ rfl (by rw [List.length_map]; exact hn) hv.1 (by rw [List.map_append, List.map_reverse]; rfl) (ax_rm8 hr) hd hf) kk
theorem AW.iret (X : ax_X p m meth c s args V G cc nL own pl (some .int)) {mc ms : Nat} {Qa : Option Value → List va_E → Prop}  (hd : decode cc pc = .ok (.ireturn, 1)) (h1 : cells ≤ mc) (h2 : slots ≤ ms) (hq : Qa (some (.int i)) h) : AW p l e R s m args below meth c V G nL h cells slots (MQ below (ax_Q V G Qa) args s mc ms (fun q => G.bs ≤ q)) pc lv [.int i] := by
  intro H locs ls hH hl hv
  refine W.widen h1 h2 ?_
  exact W.iret X.x X.b X.rt (fun t ht _ => ⟨some (.int i), h, rfl, hq, by rw [ht]; exact hH⟩) hl hd X.lk
theorem AW.lret (X : ax_X p m meth c s args V G cc nL own pl (some .long)) {mc ms : Nat} {Qa : Option Value → List va_E → Prop} {x : Int64} (hd : decode cc pc = .ok (.lreturn, 1)) (h1 : cells ≤ mc) (h2 : slots ≤ ms) (hq : Qa (some (.long x)) h) : AW p l e R s m args below meth c V G nL h cells slots (MQ below (ax_Q V G Qa) args s mc ms (fun q => G.bs ≤ q)) pc lv [.long x] := by
  intro H locs ls hH hl hv
  refine W.widen h1 h2 ?_
  exact W.lret X.x X.b X.rt (fun t ht _ => ⟨some (.long x), h, rfl, hq, by rw [ht]; exact hH⟩) hl hd X.lk
theorem AW.vret (X : ax_X p m meth c s args V G cc nL own pl none) {mc ms : Nat} {Qa : Option Value → List va_E → Prop}  (hd : decode cc pc = .ok (.return_, 1)) (h1 : cells ≤ mc) (h2 : slots ≤ ms) (hq : Qa none h) : AW p l e R s m args below meth c V G nL h cells slots (MQ below (ax_Q V G Qa) args s mc ms (fun q => G.bs ≤ q)) pc lv [] := by
  intro H locs ls hH hl hv
  refine W.widen h1 h2 ?_
  exact W.vret X.x X.b X.rt (fun t ht _ => ⟨none, h, rfl, hq, by rw [ht]; exact hH⟩) hl hd X.lk
theorem AW.zret (X : ax_X p m meth c s args V G cc nL own pl (some .boolean)) {mc ms : Nat} {Qa : Option Value → List va_E → Prop} (hz : narrow .boolean (.int i) = .int i) (hd : decode cc pc = .ok (.ireturn, 1)) (h1 : cells ≤ mc) (h2 : slots ≤ ms) (hq : Qa (some (.int i)) h) : AW p l e R s m args below meth c V G nL h cells slots (MQ below (ax_Q V G Qa) args s mc ms (fun q => G.bs ≤ q)) pc lv [.int i] := by
  intro H locs ls hH hl hv
  refine W.widen h1 h2 ?_
  exact W.zret X.x X.b X.rt hz (fun t ht _ => ⟨some (.int i), h, rfl, hq, by rw [ht]; exact hH⟩) hl hd X.lk
theorem AW.aret {C : String} (X : ax_X p m meth c s args V G cc nL own pl (some (.object C))) {mc ms : Nat} {Qa : Option Value → List va_E → Prop} (x : Option Nat) (hd : decode cc pc = .ok (.areturn, 1)) (h1 : cells ≤ mc) (h2 : slots ≤ ms) (hq : Qa (some (va_rf x)) h) : AW p l e R s m args below meth c V G nL h cells slots (MQ below (ax_Q V G Qa) args s mc ms (fun q => G.bs ≤ q)) pc lv [va_rf x] := by
  intro H locs ls hH hl hv
  refine W.widen h1 h2 ?_
  exact W.aret (v := ax_v G.ph (va_rf x)) X.x X.b X.rt (Or.inl ⟨_, rfl⟩) (by cases x; exact Or.inl rfl; exact Or.inr ⟨_, rfl⟩) (fun t ht _ => ⟨some (va_rf x), h, rfl, hq, by rw [ht]; exact hH⟩) hl hd X.lk
theorem AW.aretA {C : FieldType} (X : ax_X p m meth c s args V G cc nL own pl (some (.array C))) {mc ms : Nat} {Qa : Option Value → List va_E → Prop} (x : Option Nat) (hd : decode cc pc = .ok (.areturn, 1)) (h1 : cells ≤ mc) (h2 : slots ≤ ms) (hq : Qa (some (va_rf x)) h) : AW p l e R s m args below meth c V G nL h cells slots (MQ below (ax_Q V G Qa) args s mc ms (fun q => G.bs ≤ q)) pc lv [va_rf x] := by
  intro H locs ls hH hl hv
  refine W.widen h1 h2 ?_
  exact W.aret (v := ax_v G.ph (va_rf x)) X.x X.b X.rt (Or.inr ⟨_, rfl⟩) (by cases x; exact Or.inl rfl; exact Or.inr ⟨_, rfl⟩) (fun t ht _ => ⟨some (va_rf x), h, rfl, hq, by rw [ht]; exact hH⟩) hl hd X.lk
end AXC
end
section
/-! a method's code as a table (pc, instruction, length); 'AW.run X hT k n rfl': n instructions from the table's k-th on -/
def ax_T (cc : ByteArray) (T : List (Nat × Instr × Nat)) : Prop := ∀ q ∈ T, decode cc q.1 = .ok q.2
theorem ax_T.d {cc : ByteArray} {T : List (Nat × Instr × Nat)} (hT : ax_T cc T) (k : Nat) {pc len : Nat} {i : Instr} (hk : T[k]? = some (pc, i, len)) : decode cc pc = .ok (i, len) := hT (pc, i, len) (List.mem_of_getElem? hk)
def ax_go (nL : Nat) (pl : ax_pool) : Nat → List (Nat × Instr × Nat) → Nat → List (Nat × Value) → List Value → List va_E → Option (Nat × List (Nat × Value) × List Value × List va_E)
  | 0, [], pc, lv, st, h => some (pc, lv, st, h)
  | 0, (pc0, _, _) :: _, pc, lv, st, h => bif Nat.beq pc0 pc then some (pc0, lv, st, h) else none
  | _ + 1, [], _, _, _, _ => none
  | n + 1, (pc0, i, len) :: r, pc, lv, st, h => bif Nat.beq pc0 pc then ax_i nL pl (i, len) lv st h (fun lv st h => ax_go nL pl n r (pc0 + len) lv st h) else none
section AXRUN
variable {p : Program} {l : Launch} {e : Env} {R : Room} {s : State} {m : MethodId} {args : Array Value} {below : List Frame} {meth : Method} {c : Code} {V : ax_V} {G : ax_G} {cc : ByteArray} {nL : Nat} {own : String} {pl : ax_pool} {ret : Option FieldType} {cells slots : Nat} {Q : State → Prop}
theorem AW.go (X : ax_X p m meth c s args V G cc nL own pl ret) {pc' : Nat} {lv' : List (Nat × Value)} {st' : List Value} {h' : List va_E} (kk : AW p l e R s m args below meth c V G nL h' cells slots Q pc' lv' st') : ∀ {n : Nat} {T : List (Nat × Instr × Nat)} {pc : Nat} {lv : List (Nat × Value)} {st : List Value} {h : List va_E}, ax_T cc T → ax_go nL pl n T pc lv st h = some (pc', lv', st', h') →
    AW p l e R s m args below meth c V G nL h cells slots Q pc lv st
  | 0, [], pc, lv, st, h, _, hr => by
    cases hr
    exact kk
  | 0, (pc0, i, len) :: r, pc, lv, st, h, _, hr => by
    obtain ⟨e1, hr⟩ := ax_len (show (bif Nat.beq pc0 pc then _ else none) = some _ from hr)
    cases hr
    exact e1 ▸ kk
  | n + 1, [], pc, lv, st, h, _, hr => by cases hr
  | n + 1, (pc0, i, len) :: r, pc, lv, st, h, hT, hr => by
    replace hr := ax_len (show (bif Nat.beq pc0 pc then _ else none) = some _ from hr)
    obtain ⟨e1, hr⟩ := hr
    subst e1
    exact ax_i_ok X (hT (pc0, i, len) List.mem_cons_self) hr (fun lv1 st1 h1 h2 => AW.go X kk (fun q hq => hT q (List.mem_cons_of_mem _ hq)) h2)
theorem AW.run (X : ax_X p m meth c s args V G cc nL own pl ret) {T : List (Nat × Instr × Nat)} (hT : ax_T cc T) (k n : Nat) {pc pc' : Nat} {lv lv' : List (Nat × Value)} {st st' : List Value} {h h' : List va_E} (hr : ax_go nL pl n (T.drop k) pc lv st h = some (pc', lv', st', h'))
    (kk : AW p l e R s m args below meth c V G nL h' cells slots Q pc' lv' st') : AW p l e R s m args below meth c V G nL h cells slots Q pc lv st :=
  AW.go X kk (fun q hq => hT q (List.mem_of_mem_drop hq)) hr
end AXRUN
/-- a pool's fields by a list (entry, class of the object, field) -/
def ax_al : List (Nat × Nat × Nat) → Nat → Nat → Option Nat
  | [], _, _ => none
  | q :: r, i, c => bif Nat.beq q.1 i && Nat.beq q.2.1 c then some q.2.2 else ax_al r i c
theorem ax_al_mem {i c k : Nat} : ∀ {l : List (Nat × Nat × Nat)}, ax_al l i c = some k → (i, c, k) ∈ l
  | [], h => by cases h
  | q :: r, h => by
    unfold ax_al at h
    cases hb : (Nat.beq q.1 i && Nat.beq q.2.1 c) with
    | true =>
      rw [hb] at h
      rw [Bool.and_eq_true] at hb
      obtain ⟨a, b, d⟩ := q
      have h1 : a = i := Nat.eq_of_beq_eq_true hb.1
      have h2 : b = c := Nat.eq_of_beq_eq_true hb.2
      cases h
      subst h1 h2
      exact List.mem_cons_self
    | false =>
      rw [hb] at h
      exact List.mem_cons_of_mem _ (ax_al_mem h)
def ax_kl : List (Nat × Value) → Nat → Option Value
  | [], _ => none
  | q :: r, i => bif Nat.beq q.1 i then some q.2 else ax_kl r i
theorem ax_kl_mem {i : Nat} {v : Value} : ∀ {l : List (Nat × Value)}, ax_kl l i = some v → (i, v) ∈ l
  | [], h => by cases h
  | q :: r, h => by
    unfold ax_kl at h
    cases hb : Nat.beq q.1 i with
    | true =>
      rw [hb] at h
      obtain ⟨a, b⟩ := q
      have h1 : a = i := Nat.eq_of_beq_eq_true hb
      cases h
      subst h1
      exact List.mem_cons_self
    | false =>
      rw [hb] at h
      exact List.mem_cons_of_mem _ (ax_kl_mem h)
theorem ax_F_of {V : ax_V} {own : String} {l : List (Nat × Nat × Nat)} (h : ∀ q ∈ l, ∃ (C : String) (T : u_T) (N : Nat) (ref : String), V.cl[q.2.1]? = some (C, T, N) ∧ q.2.2 < N ∧ Cond.fieldLink own q.1 ref (T q.2.2).2.1 (T q.2.2).2.2.1 ∈ V.ts ∧ (ref = (T q.2.2).1 ∨ Cond.sameField ref (T q.2.2).1 (T q.2.2).2.1 (T q.2.2).2.2.1 ∈ V.ts)) : ax_F V own (ax_al l) := fun idx ci k hk => h _ (ax_al_mem hk)
theorem ax_PL_of {V : ax_V} {own : String} {l : List (Nat × Value)} (h : ∀ q ∈ l, match q.2 with | .int x => Cond.constant own q.1 x ∈ V.ts | .long x => Cond.constantLong own q.1 x ∈ V.ts | _ => True) : ax_PL V own (ax_kl l) := ⟨fun idx x hk => h _ (ax_kl_mem hk), fun idx x hk => h _ (ax_kl_mem hk)⟩
end
section
abbrev N_init_c : ByteArray := prog_1_method_1_code
def N_init_y : MethodName := ⟨"NumberFunctions", "<init>", "()V"⟩
def N_init_t : List (Nat × Instr × Nat) := [(0, .aload_n 0, 1), (1, .invokespecial 1, 3), (4, .aload_n 0, 1), (5, .sipush 8192, 3), (8, .newarray .byte, 2), (10, .putfield 9, 3), (13, .aload_n 0, 1), (14, .iconst 0, 1), (15, .putfield 13, 3), (18, .aload_n 0, 1), (19, .new 17, 3), (22, .dup, 1), (23, .invokespecial 19, 3), (26, .putfield 20, 3), (29, .aload_n 0, 1), (30, .bipush 24, 2), (32, .anewarray 24, 3), (35, .putfield 26, 3), (38, .aload_n 0, 1), (39, .iconst 0, 1), (40, .putfield 30, 3), (43, .aload_n 0, 1), (44, .iconst 4, 1), (45, .newarray .int, 2), (47, .putfield 33, 3), (50, .aload_n 0, 1), (51, .iconst 4, 1), (52, .newarray .int, 2), (54, .putfield 37, 3), (57, .aload_n 0, 1), (58, .iconst 4, 1), (59, .newarray .int, 2), (61, .putfield 40, 3), (64, .aload_n 0, 1), (65, .new 43, 3), (68, .dup, 1), (69, .invokespecial 45, 3), (72, .putfield 46, 3), (75, .aload_n 0, 1), (76, .new 50, 3), (79, .dup, 1), (80, .invokespecial 52, 3), (83, .putfield 53, 3), (86, .aload_n 0, 1), (87, .new 57, 3), (90, .dup, 1), (91, .invokespecial 59, 3), (94, .putfield 60, 3), (97, .return_, 1)]
set_option maxRecDepth 100000 in
theorem N_init_d : ax_T N_init_c N_init_t := by unfold ax_T; decide +kernel
abbrev N_feed_c : ByteArray := prog_1_method_2_code
def N_feed_y : MethodName := ⟨"NumberFunctions", "feed", "(IIIII)I"⟩
def N_feed_t : List (Nat × Instr × Nat) := [(0, .aload_n 0, 1), (1, .getfield 13, 3), (4, .bipush 20, 2), (6, .iadd, 1), (7, .sipush 8192, 3), (10, .if_icmp .le 5, 3), (13, .iconst (-1), 1), (14, .ireturn, 1), (15, .aload_n 0, 1), (16, .iload_n 1, 1), (17, .invokevirtual 64, 3), (20, .aload_n 0, 1), (21, .iload_n 2, 1), (22, .invokevirtual 64, 3), (25, .aload_n 0, 1), (26, .iload_n 3, 1), (27, .invokevirtual 64, 3), (30, .aload_n 0, 1), (31, .iload 4, 2), (33, .invokevirtual 64, 3), (36, .aload_n 0, 1), (37, .iload 5, 2), (39, .invokevirtual 64, 3), (42, .aload_n 0, 1), (43, .getfield 13, 3), (46, .ireturn, 1)]
set_option maxRecDepth 100000 in
theorem N_feed_d : ax_T N_feed_c N_feed_t := by unfold ax_T; decide +kernel
abbrev N_appendBytes_c : ByteArray := prog_1_method_13_code
def N_appendBytes_y : MethodName := ⟨"NumberFunctions", "appendBytes", "(I)V"⟩
def N_appendBytes_t : List (Nat × Instr × Nat) := [(0, .bipush 24, 2), (2, .istore_n 2, 1), (3, .iload_n 2, 1), (4, .ifCond .lt 42, 3), (7, .aload_n 0, 1), (8, .getfield 13, 3), (11, .sipush 8192, 3), (14, .if_icmp .ge 32, 3), (17, .aload_n 0, 1), (18, .getfield 9, 3), (21, .aload_n 0, 1), (22, .getfield 13, 3), (25, .iload_n 1, 1), (26, .iload_n 2, 1), (27, .iushr, 1), (28, .i2b, 1), (29, .bastore, 1), (30, .aload_n 0, 1), (31, .dup, 1), (32, .getfield 13, 3), (35, .iconst 1, 1), (36, .iadd, 1), (37, .putfield 13, 3), (40, .iinc 2 (-8), 3), (43, .goto (-40), 3), (46, .return_, 1)]
set_option maxRecDepth 100000 in
theorem N_appendBytes_d : ax_T N_appendBytes_c N_appendBytes_t := by unfold ax_T; decide +kernel
abbrev N_drop_c : ByteArray := prog_1_method_5_code
def N_drop_y : MethodName := ⟨"NumberFunctions", "drop", "()I"⟩
def N_drop_t : List (Nat × Instr × Nat) := [(0, .aload_n 0, 1), (1, .getfield 20, 3), (4, .getfield 87, 3), (7, .istore_n 1, 1), (8, .aload_n 0, 1), (9, .getfield 20, 3), (12, .iconst 0, 1), (13, .putfield 87, 3), (16, .iload_n 1, 1), (17, .ireturn, 1)]
set_option maxRecDepth 100000 in
theorem N_drop_d : ax_T N_drop_c N_drop_t := by unfold ax_T; decide +kernel
abbrev N_clear_c : ByteArray := prog_1_method_7_code
def N_clear_y : MethodName := ⟨"NumberFunctions", "clear", "()I"⟩
def N_clear_t : List (Nat × Instr × Nat) := [(0, .aload_n 0, 1), (1, .getfield 30, 3), (4, .istore_n 1, 1), (5, .iconst 0, 1), (6, .istore_n 2, 1), (7, .iload_n 2, 1), (8, .bipush 24, 2), (10, .if_icmp .ge 16, 3), (13, .aload_n 0, 1), (14, .getfield 26, 3), (17, .iload_n 2, 1), (18, .aconst_null, 1), (19, .aastore, 1), (20, .iinc 2 1, 3), (23, .goto (-16), 3), (26, .aload_n 0, 1), (27, .iconst 0, 1), (28, .putfield 30, 3), (31, .iload_n 1, 1), (32, .ireturn, 1)]
set_option maxRecDepth 100000 in
theorem N_clear_d : ax_T N_clear_c N_clear_t := by unfold ax_T; decide +kernel
abbrev N_fault_c : ByteArray := prog_1_method_11_code
def N_fault_y : MethodName := ⟨"NumberFunctions", "fault", "(I)I"⟩
def N_fault_t : List (Nat × Instr × Nat) := [(0, .iload_n 1, 1), (1, .lookupswitch 43 #[(0, 27), (1, 35)], 27), (28, .aload_n 0, 1), (29, .getfield 46, 3), (32, .getfield 133, 3), (35, .ireturn, 1), (36, .aload_n 0, 1), (37, .getfield 46, 3), (40, .getfield 141, 3), (43, .ireturn, 1), (44, .iconst (-1), 1), (45, .ireturn, 1)]
set_option maxRecDepth 100000 in
theorem N_fault_d : ax_T N_fault_c N_fault_t := by unfold ax_T; decide +kernel
abbrev N_cut_c : ByteArray := prog_1_method_3_code
def N_cut_y : MethodName := ⟨"NumberFunctions", "cut", "(I)I"⟩
def N_cut_t : List (Nat × Instr × Nat) := [(0, .iload_n 1, 1), (1, .ifCond .ge 13, 3), (4, .new 68, 3), (7, .dup, 1), (8, .ldc 70, 2), (10, .invokespecial 72, 3), (13, .athrow, 1), (14, .aload_n 0, 1), (15, .getfield 13, 3), (18, .iload_n 1, 1), (19, .isub, 1), (20, .iconst 0, 1), (21, .invokestatic 75, 3), (24, .istore_n 2, 1), (25, .aload_n 0, 1), (26, .dup, 1), (27, .getfield 13, 3), (30, .iload_n 2, 1), (31, .isub, 1), (32, .putfield 13, 3), (35, .iload_n 2, 1), (36, .ireturn, 1)]
set_option maxRecDepth 100000 in
theorem N_cut_d : ax_T N_cut_c N_cut_t := by unfold ax_T; decide +kernel
abbrev N_tell_c : ByteArray := prog_1_method_4_code
def N_tell_y : MethodName := ⟨"NumberFunctions", "tell", "(I)I"⟩
def N_tell_t : List (Nat × Instr × Nat) := [(0, .iload_n 1, 1), (1, .invokestatic 81, 3), (4, .ifCond .ne 13, 3), (7, .new 68, 3), (10, .dup, 1), (11, .ldc 85, 2), (13, .invokespecial 72, 3), (16, .athrow, 1), (17, .aload_n 0, 1), (18, .getfield 20, 3), (21, .getfield 87, 3), (24, .bipush 96, 2), (26, .if_icmp .lt 13, 3), (29, .new 90, 3), (32, .dup, 1), (33, .ldc 92, 2), (35, .invokespecial 94, 3), (38, .athrow, 1), (39, .aload_n 0, 1), (40, .getfield 20, 3), (43, .getfield 95, 3), (46, .aload_n 0, 1), (47, .getfield 20, 3), (50, .getfield 87, 3), (53, .iload_n 1, 1), (54, .iastore, 1), (55, .aload_n 0, 1), (56, .getfield 20, 3), (59, .dup, 1), (60, .getfield 87, 3), (63, .iconst 1, 1), (64, .iadd, 1), (65, .putfield 87, 3), (68, .aload_n 0, 1), (69, .getfield 20, 3), (72, .getfield 87, 3), (75, .ireturn, 1)]
set_option maxRecDepth 100000 in
theorem N_tell_d : ax_T N_tell_c N_tell_t := by unfold ax_T; decide +kernel
abbrev N_isNumber_c : ByteArray := prog_1_method_12_code
def N_isNumber_y : MethodName := ⟨"NumberFunctions", "isNumber", "(I)Z"⟩
def N_isNumber_t : List (Nat × Instr × Nat) := [(0, .iload_n 0, 1), (1, .ldc 144, 2), (3, .if_icmp .lt 13, 3), (6, .iload_n 0, 1), (7, .ldc 145, 2), (9, .if_icmp .gt 7, 3), (12, .iconst 1, 1), (13, .goto 4, 3), (16, .iconst 0, 1), (17, .ireturn, 1)]
set_option maxRecDepth 100000 in
theorem N_isNumber_d : ax_T N_isNumber_c N_isNumber_t := by unfold ax_T; decide +kernel
abbrev N_make_c : ByteArray := prog_1_method_6_code
def N_make_y : MethodName := ⟨"NumberFunctions", "make", "(III)I"⟩
def N_make_t : List (Nat × Instr × Nat) := [(0, .iload_n 2, 1), (1, .iconst 1, 1), (2, .if_icmp .lt 11, 3), (5, .iload_n 2, 1), (6, .iload_n 1, 1), (7, .invokestatic 98, 3), (10, .if_icmp .le 13, 3), (13, .new 68, 3), (16, .dup, 1), (17, .ldc 102, 2), (19, .invokespecial 72, 3), (22, .athrow, 1), (23, .iload_n 3, 1), (24, .iconst 1, 1), (25, .if_icmp .lt 8, 3), (28, .iload_n 3, 1), (29, .iconst 4, 1), (30, .if_icmp .le 13, 3), (33, .new 68, 3), (36, .dup, 1), (37, .ldc 104, 2), (39, .invokespecial 72, 3), (42, .athrow, 1), (43, .aload_n 0, 1), (44, .getfield 30, 3), (47, .bipush 24, 2), (49, .if_icmp .lt 13, 3), (52, .new 90, 3), (55, .dup, 1), (56, .ldc 106, 2), (58, .invokespecial 94, 3), (61, .athrow, 1), (62, .aload_n 0, 1), (63, .getfield 46, 3), (66, .iconst (-1), 1), (67, .iconst (-1), 1), (68, .invokevirtual 108, 3), (71, .aload_n 0, 1), (72, .iload_n 1, 1), (73, .iload_n 2, 1), (74, .iload_n 3, 1), (75, .invokevirtual 112, 3), (78, .astore 4, 2), (80, .aload 4, 2), (82, .ifnonnull 5, 3), (85, .iconst (-1), 1), (86, .ireturn, 1), (87, .aload_n 0, 1), (88, .getfield 20, 3), (91, .iconst 0, 1), (92, .putfield 87, 3), (95, .aload_n 0, 1), (96, .getfield 26, 3), (99, .aload_n 0, 1), (100, .getfield 30, 3), (103, .aload 4, 2), (105, .aastore, 1), (106, .aload_n 0, 1), (107, .dup, 1), (108, .getfield 30, 3), (111, .iconst 1, 1), (112, .iadd, 1), (113, .putfield 30, 3), (116, .aload_n 0, 1), (117, .getfield 30, 3), (120, .iconst 1, 1), (121, .isub, 1), (122, .ireturn, 1)]
set_option maxRecDepth 100000 in
theorem N_make_d : ax_T N_make_c N_make_t := by unfold ax_T; decide +kernel
abbrev N_inputLimit_c : ByteArray := prog_1_method_14_code
def N_inputLimit_y : MethodName := ⟨"NumberFunctions", "inputLimit", "(I)I"⟩
def N_inputLimit_t : List (Nat × Instr × Nat) := [(0, .iload_n 0, 1), (1, .tableswitch 41 0 4 #[35, 41, 37, 37, 39], 35), (36, .iconst 3, 1), (37, .ireturn, 1), (38, .iconst 1, 1), (39, .ireturn, 1), (40, .iconst 4, 1), (41, .ireturn, 1), (42, .iconst 0, 1), (43, .ireturn, 1)]
set_option maxRecDepth 100000 in
theorem N_inputLimit_d : ax_T N_inputLimit_c N_inputLimit_t := by unfold ax_T; decide +kernel
abbrev N_built_c : ByteArray := prog_1_method_15_code
def N_built_y : MethodName := ⟨"NumberFunctions", "built", "(III)LNumberFunctions$Function;"⟩
def N_built_t : List (Nat × Instr × Nat) := [(0, .aload_n 0, 1), (1, .iload_n 1, 1), (2, .iload_n 2, 1), (3, .iload_n 3, 1), (4, .invokevirtual 146, 3), (7, .ifCond .ne 14, 3), (10, .aload_n 0, 1), (11, .getfield 46, 3), (14, .iconst 1, 1), (15, .iconst 0, 1), (16, .invokevirtual 108, 3), (19, .aconst_null, 1), (20, .areturn, 1), (21, .aload_n 0, 1), (22, .getfield 20, 3), (25, .getfield 95, 3), (28, .aload_n 0, 1), (29, .getfield 20, 3), (32, .getfield 87, 3), (35, .invokestatic 150, 3), (38, .astore 4, 2), (40, .iload_n 1, 1), (41, .tableswitch 66 0 3 #[31, 66, 40, 51], 31), (72, .aload_n 0, 1), (73, .iload_n 2, 1), (74, .iload_n 3, 1), (75, .aload 4, 2), (77, .invokevirtual 156, 3), (80, .areturn, 1), (81, .new 160, 3), (84, .dup, 1), (85, .iload_n 3, 1), (86, .aload 4, 2), (88, .invokespecial 162, 3), (91, .areturn, 1), (92, .new 165, 3), (95, .dup, 1), (96, .iload_n 3, 1), (97, .aload 4, 2), (99, .aload_n 0, 1), (100, .getfield 26, 3), (103, .invokespecial 167, 3), (106, .areturn, 1), (107, .aload_n 0, 1), (108, .getfield 53, 3), (111, .aload_n 0, 1), (112, .getfield 9, 3), (115, .aload_n 0, 1), (116, .getfield 13, 3), (119, .aload_n 0, 1), (120, .getfield 46, 3), (123, .invokevirtual 170, 3), (126, .aload_n 0, 1), (127, .getfield 46, 3), (130, .getfield 133, 3), (133, .iconst (-1), 1), (134, .if_icmp .eq 7, 3), (137, .aconst_null, 1), (138, .goto 22, 3), (141, .new 174, 3), (144, .dup, 1), (145, .iload_n 2, 1), (146, .iload_n 3, 1), (147, .aload 4, 2), (149, .aload_n 0, 1), (150, .getfield 53, 3), (153, .aload_n 0, 1), (154, .getfield 60, 3), (157, .invokespecial 176, 3), (160, .areturn, 1)]
set_option maxRecDepth 100000 in
theorem N_built_d : ax_T N_built_c N_built_t := by unfold ax_T; decide +kernel
abbrev N_isTold_c : ByteArray := prog_1_method_16_code
def N_isTold_y : MethodName := ⟨"NumberFunctions", "isTold", "(III)Z"⟩
def N_isTold_t : List (Nat × Instr × Nat) := [(0, .iload_n 1, 1), (1, .tableswitch 67 0 3 #[31, 67, 41, 50], 31), (32, .aload_n 0, 1), (33, .getfield 20, 3), (36, .iload_n 2, 1), (37, .iload_n 3, 1), (38, .invokevirtual 179, 3), (41, .ireturn, 1), (42, .aload_n 0, 1), (43, .getfield 20, 3), (46, .iload_n 3, 1), (47, .invokevirtual 183, 3), (50, .ireturn, 1), (51, .aload_n 0, 1), (52, .getfield 20, 3), (55, .iload_n 3, 1), (56, .aload_n 0, 1), (57, .getfield 26, 3), (60, .aload_n 0, 1), (61, .getfield 30, 3), (64, .invokevirtual 186, 3), (67, .ireturn, 1), (68, .aload_n 0, 1), (69, .getfield 20, 3), (72, .iload_n 2, 1), (73, .iload_n 3, 1), (74, .invokevirtual 190, 3), (77, .ireturn, 1)]
set_option maxRecDepth 100000 in
theorem N_isTold_d : ax_T N_isTold_c N_isTold_t := by unfold ax_T; decide +kernel
abbrev N_builtSamples_c : ByteArray := prog_1_method_17_code
def N_builtSamples_y : MethodName := ⟨"NumberFunctions", "builtSamples", "(II[I)LNumberFunctions$Function;"⟩
def N_builtSamples_t : List (Nat × Instr × Nat) := [(0, .iload_n 1, 1), (1, .iload_n 2, 1), (2, .aload_n 3, 1), (3, .invokestatic 193, 3), (6, .istore 4, 2), (8, .iload 4, 2), (10, .aload_n 0, 1), (11, .getfield 13, 3), (14, .if_icmp .le 15, 3), (17, .aload_n 0, 1), (18, .getfield 46, 3), (21, .iconst 2, 1), (22, .iload 4, 2), (24, .invokevirtual 108, 3), (27, .aconst_null, 1), (28, .areturn, 1), (29, .new 194, 3), (32, .dup, 1), (33, .iload_n 1, 1), (34, .iload_n 2, 1), (35, .aload_n 3, 1), (36, .aload_n 0, 1), (37, .getfield 9, 3), (40, .iload 4, 2), (42, .invokestatic 199, 3), (45, .invokespecial 202, 3), (48, .areturn, 1)]
set_option maxRecDepth 100000 in
theorem N_builtSamples_d : ax_T N_builtSamples_c N_builtSamples_t := by unfold ax_T; decide +kernel
abbrev N_input_c : ByteArray := prog_1_method_8_code
def N_input_y : MethodName := ⟨"NumberFunctions", "input", "(II)I"⟩
def N_input_t : List (Nat × Instr × Nat) := [(0, .iload_n 1, 1), (1, .ifCond .lt 15, 3), (4, .iload_n 1, 1), (5, .iconst 4, 1), (6, .if_icmp .ge 10, 3), (9, .iload_n 2, 1), (10, .invokestatic 81, 3), (13, .ifCond .ne 13, 3), (16, .new 68, 3), (19, .dup, 1), (20, .ldc 116, 2), (22, .invokespecial 72, 3), (25, .athrow, 1), (26, .aload_n 0, 1), (27, .getfield 33, 3), (30, .iload_n 1, 1), (31, .iaload, 1), (32, .istore_n 3, 1), (33, .aload_n 0, 1), (34, .getfield 33, 3), (37, .iload_n 1, 1), (38, .iload_n 2, 1), (39, .iastore, 1), (40, .iload_n 3, 1), (41, .ireturn, 1)]
set_option maxRecDepth 100000 in
theorem N_input_d : ax_T N_input_c N_input_t := by unfold ax_T; decide +kernel
abbrev N_call_c : ByteArray := prog_1_method_9_code
def N_call_y : MethodName := ⟨"NumberFunctions", "call", "(I)I"⟩
def N_call_t : List (Nat × Instr × Nat) := [(0, .iload_n 1, 1), (1, .ifCond .lt 20, 3), (4, .iload_n 1, 1), (5, .aload_n 0, 1), (6, .getfield 30, 3), (9, .if_icmp .ge 12, 3), (12, .aload_n 0, 1), (13, .getfield 26, 3), (16, .iload_n 1, 1), (17, .aaload, 1), (18, .ifnonnull 13, 3), (21, .new 118, 3), (24, .dup, 1), (25, .ldc 120, 2), (27, .invokespecial 122, 3), (30, .athrow, 1), (31, .aload_n 0, 1), (32, .getfield 33, 3), (35, .iconst 0, 1), (36, .aload_n 0, 1), (37, .getfield 40, 3), (40, .iconst 0, 1), (41, .iconst 4, 1), (42, .invokestatic 123, 3), (45, .aload_n 0, 1), (46, .getfield 46, 3), (49, .iconst (-1), 1), (50, .iconst (-1), 1), (51, .invokevirtual 108, 3), (54, .aload_n 0, 1), (55, .getfield 26, 3), (58, .iload_n 1, 1), (59, .aaload, 1), (60, .astore_n 2, 1), (61, .aload_n 2, 1), (62, .aload_n 0, 1), (63, .getfield 40, 3), (66, .aload_n 0, 1), (67, .getfield 37, 3), (70, .aload_n 0, 1), (71, .getfield 46, 3), (74, .invokevirtual 129, 3), (77, .aload_n 0, 1), (78, .getfield 46, 3), (81, .getfield 133, 3), (84, .iconst (-1), 1), (85, .if_icmp .eq 5, 3), (88, .iconst (-1), 1), (89, .ireturn, 1), (90, .aload_n 2, 1), (91, .getfield 136, 3), (94, .istore_n 3, 1), (95, .iload_n 3, 1), (96, .iconst 4, 1), (97, .if_icmp .ge 16, 3), (100, .aload_n 0, 1), (101, .getfield 37, 3), (104, .iload_n 3, 1), (105, .iconst 0, 1), (106, .iastore, 1), (107, .iinc 3 1, 3), (110, .goto (-15), 3), (113, .aload_n 2, 1), (114, .getfield 136, 3), (117, .ireturn, 1)]
set_option maxRecDepth 100000 in
theorem N_call_d : ax_T N_call_c N_call_t := by unfold ax_T; decide +kernel
abbrev N_output_c : ByteArray := prog_1_method_10_code
def N_output_y : MethodName := ⟨"NumberFunctions", "output", "(I)I"⟩
def N_output_t : List (Nat × Instr × Nat) := [(0, .iload_n 1, 1), (1, .ifCond .lt 8, 3), (4, .iload_n 1, 1), (5, .iconst 4, 1), (6, .if_icmp .lt 13, 3), (9, .new 68, 3), (12, .dup, 1), (13, .ldc 139, 2), (15, .invokespecial 72, 3), (18, .athrow, 1), (19, .aload_n 0, 1), (20, .getfield 37, 3), (23, .iload_n 1, 1), (24, .iaload, 1), (25, .ireturn, 1)]
set_option maxRecDepth 100000 in
theorem N_output_d : ax_T N_output_c N_output_t := by unfold ax_T; decide +kernel
abbrev T_init_c : ByteArray := prog_12_method_1_code
def T_init_y : MethodName := ⟨"NumberFunctions$Telling", "<init>", "()V"⟩
def T_init_t : List (Nat × Instr × Nat) := [(0, .aload_n 0, 1), (1, .invokespecial 3, 3), (4, .aload_n 0, 1), (5, .bipush 96, 2), (7, .newarray .int, 2), (9, .putfield 9, 3), (12, .aload_n 0, 1), (13, .iconst 0, 1), (14, .putfield 15, 3), (17, .return_, 1)]
set_option maxRecDepth 100000 in
theorem T_init_d : ax_T T_init_c T_init_t := by unfold ax_T; decide +kernel
abbrev T_saysSamples_c : ByteArray := prog_12_method_2_code
def T_saysSamples_y : MethodName := ⟨"NumberFunctions$Telling", "saysSamples", "(II)Z"⟩
def T_saysSamples_t : List (Nat × Instr × Nat) := [(0, .iconst 5, 1), (1, .iload_n 1, 1), (2, .imul, 1), (3, .istore_n 3, 1), (4, .aload_n 0, 1), (5, .getfield 15, 3), (8, .iload_n 3, 1), (9, .iconst 1, 1), (10, .iadd, 1), (11, .iconst 4, 1), (12, .iload_n 2, 1), (13, .imul, 1), (14, .iadd, 1), (15, .if_icmp .ne 15, 3), (18, .aload_n 0, 1), (19, .getfield 9, 3), (22, .iload_n 3, 1), (23, .iaload, 1), (24, .invokestatic 19, 3), (27, .ifCond .ne 5, 3), (30, .iconst 0, 1), (31, .ireturn, 1), (32, .iconst 0, 1), (33, .istore 4, 2), (35, .iload 4, 2), (37, .iload_n 1, 1), (38, .if_icmp .ge 40, 3), (41, .iconst 5, 1), (42, .iload 4, 2), (44, .imul, 1), (45, .istore 5, 2), (47, .aload_n 0, 1), (48, .iload 5, 2), (50, .invokevirtual 23, 3), (53, .ifCond .eq 17, 3), (56, .aload_n 0, 1), (57, .iload 5, 2), (59, .iconst 2, 1), (60, .iadd, 1), (61, .iconst 1, 1), (62, .bipush 64, 2), (64, .invokevirtual 26, 3), (67, .ifCond .ne 5, 3), (70, .iconst 0, 1), (71, .ireturn, 1), (72, .iinc 4 1, 3), (75, .goto (-40), 3), (78, .iconst 0, 1), (79, .istore 4, 2), (81, .iload 4, 2), (83, .iload_n 2, 1), (84, .if_icmp .ge 26, 3), (87, .aload_n 0, 1), (88, .iload_n 3, 1), (89, .iconst 1, 1), (90, .iadd, 1), (91, .iconst 4, 1), (92, .iload 4, 2), (94, .imul, 1), (95, .iadd, 1), (96, .invokevirtual 23, 3), (99, .ifCond .ne 5, 3), (102, .iconst 0, 1), (103, .ireturn, 1), (104, .iinc 4 1, 3), (107, .goto (-26), 3), (110, .iconst 1, 1), (111, .ireturn, 1)]
set_option maxRecDepth 100000 in
theorem T_saysSamples_d : ax_T T_saysSamples_c T_saysSamples_t := by unfold ax_T; decide +kernel
abbrev T_isSampleBits_c : ByteArray := prog_12_method_10_code
def T_isSampleBits_y : MethodName := ⟨"NumberFunctions$Telling", "isSampleBits", "(I)Z"⟩
def T_isSampleBits_t : List (Nat × Instr × Nat) := [(0, .iload_n 0, 1), (1, .tableswitch 81 1 16 #[79, 79, 81, 79, 81, 81, 81, 79, 81, 81, 81, 79, 81, 81, 81, 79], 79), (80, .iconst 1, 1), (81, .ireturn, 1), (82, .iconst 0, 1), (83, .ireturn, 1)]
set_option maxRecDepth 100000 in
theorem T_isSampleBits_d : ax_T T_isSampleBits_c T_isSampleBits_t := by unfold ax_T; decide +kernel
abbrev T_isPair_c : ByteArray := prog_12_method_7_code
def T_isPair_y : MethodName := ⟨"NumberFunctions$Telling", "isPair", "(I)Z"⟩
def T_isPair_t : List (Nat × Instr × Nat) := [(0, .aload_n 0, 1), (1, .getfield 9, 3), (4, .iload_n 1, 1), (5, .iaload, 1), (6, .aload_n 0, 1), (7, .getfield 9, 3), (10, .iload_n 1, 1), (11, .iconst 1, 1), (12, .iadd, 1), (13, .iaload, 1), (14, .if_icmp .gt 7, 3), (17, .iconst 1, 1), (18, .goto 4, 3), (21, .iconst 0, 1), (22, .ireturn, 1)]
set_option maxRecDepth 100000 in
theorem T_isPair_d : ax_T T_isPair_c T_isPair_t := by unfold ax_T; decide +kernel
abbrev T_isOneOf_c : ByteArray := prog_12_method_8_code
def T_isOneOf_y : MethodName := ⟨"NumberFunctions$Telling", "isOneOf", "(III)Z"⟩
def T_isOneOf_t : List (Nat × Instr × Nat) := [(0, .aload_n 0, 1), (1, .getfield 9, 3), (4, .iload_n 1, 1), (5, .iaload, 1), (6, .iload_n 2, 1), (7, .if_icmp .lt 17, 3), (10, .aload_n 0, 1), (11, .getfield 9, 3), (14, .iload_n 1, 1), (15, .iaload, 1), (16, .iload_n 3, 1), (17, .if_icmp .gt 7, 3), (20, .iconst 1, 1), (21, .goto 4, 3), (24, .iconst 0, 1), (25, .ireturn, 1)]
set_option maxRecDepth 100000 in
theorem T_isOneOf_d : ax_T T_isOneOf_c T_isOneOf_t := by unfold ax_T; decide +kernel
abbrev T_saysPowers_c : ByteArray := prog_12_method_3_code
def T_saysPowers_y : MethodName := ⟨"NumberFunctions$Telling", "saysPowers", "(I)Z"⟩
def T_saysPowers_t : List (Nat × Instr × Nat) := [(0, .aload_n 0, 1), (1, .getfield 15, 3), (4, .iconst 3, 1), (5, .iconst 2, 1), (6, .iload_n 1, 1), (7, .imul, 1), (8, .iadd, 1), (9, .if_icmp .ne 26, 3), (12, .aload_n 0, 1), (13, .iconst 0, 1), (14, .invokevirtual 23, 3), (17, .ifCond .eq 18, 3), (20, .aload_n 0, 1), (21, .iconst 2, 1), (22, .iconst 0, 1), (23, .bipush 16, 2), (25, .invokevirtual 26, 3), (28, .ifCond .eq 7, 3), (31, .iconst 1, 1), (32, .goto 4, 3), (35, .iconst 0, 1), (36, .ireturn, 1)]
set_option maxRecDepth 100000 in
theorem T_saysPowers_d : ax_T T_saysPowers_c T_saysPowers_t := by unfold ax_T; decide +kernel
abbrev T_saysStitched_c : ByteArray := prog_12_method_4_code
def T_saysStitched_y : MethodName := ⟨"NumberFunctions$Telling", "saysStitched", "(I[LNumberFunctions$Function;I)Z"⟩
def T_saysStitched_t : List (Nat × Instr × Nat) := [(0, .aload_n 0, 1), (1, .getfield 15, 3), (4, .iconst 3, 1), (5, .if_icmp .lt 22, 3), (8, .aload_n 0, 1), (9, .iconst 0, 1), (10, .invokevirtual 23, 3), (13, .ifCond .eq 14, 3), (16, .aload_n 0, 1), (17, .iconst 2, 1), (18, .iconst 1, 1), (19, .bipush 8, 2), (21, .invokevirtual 26, 3), (24, .ifCond .ne 5, 3), (27, .iconst 0, 1), (28, .ireturn, 1), (29, .aload_n 0, 1), (30, .getfield 9, 3), (33, .iconst 2, 1), (34, .iaload, 1), (35, .istore 4, 2), (37, .aload_n 0, 1), (38, .getfield 15, 3), (41, .iconst 3, 1), (42, .iload 4, 2), (44, .iadd, 1), (45, .iload 4, 2), (47, .iconst 1, 1), (48, .isub, 1), (49, .iadd, 1), (50, .iconst 2, 1), (51, .iload 4, 2), (53, .imul, 1), (54, .iadd, 1), (55, .if_icmp .eq 5, 3), (58, .iconst 0, 1), (59, .ireturn, 1), (60, .iconst 0, 1), (61, .istore 5, 2), (63, .iload 5, 2), (65, .iload 4, 2), (67, .if_icmp .ge 44, 3), (70, .aload_n 0, 1), (71, .getfield 9, 3), (74, .iconst 3, 1), (75, .iload 5, 2), (77, .iadd, 1), (78, .iaload, 1), (79, .istore 6, 2), (81, .iload 6, 2), (83, .ifCond .lt 20, 3), (86, .iload 6, 2), (88, .iload_n 3, 1), (89, .if_icmp .ge 14, 3), (92, .aload_n 2, 1), (93, .iload 6, 2), (95, .aaload, 1), (96, .iload_n 1, 1), (97, .invokestatic 30, 3), (100, .ifCond .ne 5, 3), (103, .iconst 0, 1), (104, .ireturn, 1), (105, .iinc 5 1, 3), (108, .goto (-45), 3), (111, .aload_n 0, 1), (112, .iconst 3, 1), (113, .iload 4, 2), (115, .iadd, 1), (116, .iload 4, 2), (118, .iconst 1, 1), (119, .isub, 1), (120, .invokevirtual 34, 3), (123, .ireturn, 1)]
set_option maxRecDepth 100000 in
theorem T_saysStitched_d : ax_T T_saysStitched_c T_saysStitched_t := by unfold ax_T; decide +kernel
abbrev T_isPart_c : ByteArray := prog_12_method_9_code
def T_isPart_y : MethodName := ⟨"NumberFunctions$Telling", "isPart", "(LNumberFunctions$Function;I)Z"⟩
def T_isPart_t : List (Nat × Instr × Nat) := [(0, .aload_n 0, 1), (1, .ifnull 23, 3), (4, .aload_n 0, 1), (5, .getfield 38, 3), (8, .iconst 1, 1), (9, .if_icmp .ne 15, 3), (12, .aload_n 0, 1), (13, .getfield 43, 3), (16, .iload_n 1, 1), (17, .if_icmp .ne 7, 3), (20, .iconst 1, 1), (21, .goto 4, 3), (24, .iconst 0, 1), (25, .ireturn, 1)]
set_option maxRecDepth 100000 in
theorem T_isPart_d : ax_T T_isPart_c T_isPart_t := by unfold ax_T; decide +kernel
abbrev T_areBounds_c : ByteArray := prog_12_method_6_code
def T_areBounds_y : MethodName := ⟨"NumberFunctions$Telling", "areBounds", "(II)Z"⟩
def T_areBounds_t : List (Nat × Instr × Nat) := [(0, .aload_n 0, 1), (1, .getfield 9, 3), (4, .iconst 0, 1), (5, .iaload, 1), (6, .istore_n 3, 1), (7, .iconst 0, 1), (8, .istore 4, 2), (10, .iload 4, 2), (12, .iload_n 2, 1), (13, .if_icmp .ge 42, 3), (16, .aload_n 0, 1), (17, .getfield 9, 3), (20, .iload_n 1, 1), (21, .iload 4, 2), (23, .iadd, 1), (24, .iaload, 1), (25, .istore 5, 2), (27, .iload 5, 2), (29, .iload_n 3, 1), (30, .if_icmp .le 14, 3), (33, .iload 5, 2), (35, .aload_n 0, 1), (36, .getfield 9, 3), (39, .iconst 1, 1), (40, .iaload, 1), (41, .if_icmp .lt 5, 3), (44, .iconst 0, 1), (45, .ireturn, 1), (46, .iload 5, 2), (48, .istore_n 3, 1), (49, .iinc 4 1, 3), (52, .goto (-42), 3), (55, .iconst 1, 1), (56, .ireturn, 1)]
set_option maxRecDepth 100000 in
theorem T_areBounds_d : ax_T T_areBounds_c T_areBounds_t := by unfold ax_T; decide +kernel
abbrev T_saysProgram_c : ByteArray := prog_12_method_5_code
def T_saysProgram_y : MethodName := ⟨"NumberFunctions$Telling", "saysProgram", "(II)Z"⟩
def T_saysProgram_t : List (Nat × Instr × Nat) := [(0, .iload_n 1, 1), (1, .iload_n 2, 1), (2, .iadd, 1), (3, .istore_n 3, 1), (4, .aload_n 0, 1), (5, .getfield 15, 3), (8, .iconst 2, 1), (9, .iload_n 3, 1), (10, .imul, 1), (11, .if_icmp .eq 5, 3), (14, .iconst 0, 1), (15, .ireturn, 1), (16, .iconst 0, 1), (17, .istore 4, 2), (19, .iload 4, 2), (21, .iload_n 3, 1), (22, .if_icmp .ge 22, 3), (25, .aload_n 0, 1), (26, .iconst 2, 1), (27, .iload 4, 2), (29, .imul, 1), (30, .invokevirtual 23, 3), (33, .ifCond .ne 5, 3), (36, .iconst 0, 1), (37, .ireturn, 1), (38, .iinc 4 1, 3), (41, .goto (-22), 3), (44, .iconst 1, 1), (45, .ireturn, 1)]
set_option maxRecDepth 100000 in
theorem T_saysProgram_d : ax_T T_saysProgram_c T_saysProgram_t := by unfold ax_T; decide +kernel
abbrev U_init_c : ByteArray := prog_3_method_1_code
def U_init_y : MethodName := ⟨"NumberFunctions$Fault", "<init>", "()V"⟩
def U_init_t : List (Nat × Instr × Nat) := [(0, .aload_n 0, 1), (1, .invokespecial 3, 3), (4, .aload_n 0, 1), (5, .iconst (-1), 1), (6, .putfield 9, 3), (9, .aload_n 0, 1), (10, .iconst (-1), 1), (11, .putfield 15, 3), (14, .return_, 1)]
set_option maxRecDepth 100000 in
theorem U_init_d : ax_T U_init_c U_init_t := by unfold ax_T; decide +kernel
abbrev U_set_c : ByteArray := prog_3_method_2_code
def U_set_y : MethodName := ⟨"NumberFunctions$Fault", "set", "(II)V"⟩
def U_set_t : List (Nat × Instr × Nat) := [(0, .aload_n 0, 1), (1, .iload_n 1, 1), (2, .putfield 9, 3), (5, .aload_n 0, 1), (6, .iload_n 2, 1), (7, .putfield 15, 3), (10, .return_, 1)]
set_option maxRecDepth 100000 in
theorem U_set_d : ax_T U_set_c U_set_t := by unfold ax_T; decide +kernel
abbrev B_within_c : ByteArray := prog_6_method_2_code
def B_within_y : MethodName := ⟨"NumberFunctions$Numbers", "within", "(JJJ)J"⟩
def B_within_t : List (Nat × Instr × Nat) := [(0, .lload_n 2, 1), (1, .lload 4, 2), (3, .lload_n 0, 1), (4, .invokestatic 9, 3), (7, .invokestatic 15, 3), (10, .lreturn, 1)]
set_option maxRecDepth 100000 in
theorem B_within_d : ax_T B_within_c B_within_t := by unfold ax_T; decide +kernel
abbrev B_times_c : ByteArray := prog_6_method_4_code
def B_times_y : MethodName := ⟨"NumberFunctions$Numbers", "times", "(II)I"⟩
def B_times_t : List (Nat × Instr × Nat) := [(0, .iload_n 0, 1), (1, .i2l, 1), (2, .iload_n 1, 1), (3, .i2l, 1), (4, .lmul, 1), (5, .bipush 16, 2), (7, .lshr, 1), (8, .invokestatic 24, 3), (11, .ireturn, 1)]
set_option maxRecDepth 100000 in
theorem B_times_d : ax_T B_times_c B_times_t := by unfold ax_T; decide +kernel
abbrev B_number_c : ByteArray := prog_6_method_3_code
def B_number_y : MethodName := ⟨"NumberFunctions$Numbers", "number", "(J)I"⟩
def B_number_t : List (Nat × Instr × Nat) := [(0, .lload_n 0, 1), (1, .ldc2_w 18, 3), (4, .lcmp, 1), (5, .ifCond .le 6, 3), (8, .ldc 20, 2), (10, .ireturn, 1), (11, .lload_n 0, 1), (12, .ldc2_w 21, 3), (15, .lcmp, 1), (16, .ifCond .ge 8, 3), (19, .ldc 23, 2), (21, .goto 5, 3), (24, .lload_n 0, 1), (25, .l2i, 1), (26, .ireturn, 1)]
set_option maxRecDepth 100000 in
theorem B_number_d : ax_T B_number_c B_number_t := by unfold ax_T; decide +kernel
abbrev B_floor_c : ByteArray := prog_6_method_7_code
def B_floor_y : MethodName := ⟨"NumberFunctions$Numbers", "floor", "(I)I"⟩
def B_floor_t : List (Nat × Instr × Nat) := [(0, .iload_n 0, 1), (1, .ldc 35, 2), (3, .iand, 1), (4, .ireturn, 1)]
set_option maxRecDepth 100000 in
theorem B_floor_d : ax_T B_floor_c B_floor_t := by unfold ax_T; decide +kernel
abbrev B_truncate_c : ByteArray := prog_6_method_8_code
def B_truncate_y : MethodName := ⟨"NumberFunctions$Numbers", "truncate", "(I)I"⟩
def B_truncate_t : List (Nat × Instr × Nat) := [(0, .iload_n 0, 1), (1, .ifCond .ge 12, 3), (4, .iload_n 0, 1), (5, .ineg, 1), (6, .invokestatic 36, 3), (9, .ineg, 1), (10, .goto 7, 3), (13, .iload_n 0, 1), (14, .invokestatic 36, 3), (17, .ireturn, 1)]
set_option maxRecDepth 100000 in
theorem B_truncate_d : ax_T B_truncate_c B_truncate_t := by unfold ax_T; decide +kernel
abbrev B_root_c : ByteArray := prog_6_method_9_code
def B_root_y : MethodName := ⟨"NumberFunctions$Numbers", "root", "(I)I"⟩
def B_root_t : List (Nat × Instr × Nat) := [(0, .lconst 0, 1), (1, .lstore_n 1, 1), (2, .bipush 23, 2), (4, .istore_n 3, 1), (5, .iload_n 3, 1), (6, .ifCond .lt 33, 3), (9, .lload_n 1, 1), (10, .lconst 1, 1), (11, .iload_n 3, 1), (12, .lshl, 1), (13, .ladd, 1), (14, .lstore 4, 2), (16, .lload 4, 2), (18, .lload 4, 2), (20, .lmul, 1), (21, .bipush 16, 2), (23, .lshr, 1), (24, .iload_n 0, 1), (25, .i2l, 1), (26, .lcmp, 1), (27, .ifCond .gt 6, 3), (30, .lload 4, 2), (32, .lstore_n 1, 1), (33, .iinc 3 (-1), 3), (36, .goto (-31), 3), (39, .lload_n 1, 1), (40, .l2i, 1), (41, .ireturn, 1)]
set_option maxRecDepth 100000 in
theorem B_root_d : ax_T B_root_c B_root_t := by unfold ax_T; decide +kernel
abbrev B_over_c : ByteArray := prog_6_method_5_code
def B_over_y : MethodName := ⟨"NumberFunctions$Numbers", "over", "(II)I"⟩
def B_over_t : List (Nat × Instr × Nat) := [(0, .iload_n 1, 1), (1, .ifCond .ne 7, 3), (4, .iconst 0, 1), (5, .goto 17, 3), (8, .iload_n 0, 1), (9, .i2l, 1), (10, .ldc2_w 30, 3), (13, .lmul, 1), (14, .iload_n 1, 1), (15, .i2l, 1), (16, .invokestatic 32, 3), (19, .invokestatic 24, 3), (22, .ireturn, 1)]
set_option maxRecDepth 100000 in
theorem B_over_d : ax_T B_over_c B_over_t := by unfold ax_T; decide +kernel
abbrev B_laid_c : ByteArray := prog_6_method_6_code
def B_laid_y : MethodName := ⟨"NumberFunctions$Numbers", "laid", "(JJJJJ)I"⟩
def B_laid_t : List (Nat × Instr × Nat) := [(0, .lload_n 2, 1), (1, .lload 4, 2), (3, .lcmp, 1), (4, .ifCond .ne 9, 3), (7, .lload 6, 2), (9, .invokestatic 24, 3), (12, .ireturn, 1), (13, .lload 6, 2), (15, .lload_n 0, 1), (16, .lload_n 2, 1), (17, .lsub, 1), (18, .lload 8, 2), (20, .lload 6, 2), (22, .lsub, 1), (23, .lmul, 1), (24, .lload 4, 2), (26, .lload_n 2, 1), (27, .lsub, 1), (28, .invokestatic 32, 3), (31, .ladd, 1), (32, .invokestatic 24, 3), (35, .ireturn, 1)]
set_option maxRecDepth 100000 in
theorem B_laid_d : ax_T B_laid_c B_laid_t := by unfold ax_T; decide +kernel
end
section
abbrev R_init_c : ByteArray := prog_9_method_1_code
def R_init_y : MethodName := ⟨"NumberFunctions$Reader", "<init>", "()V"⟩
def R_init_t : List (Nat × Instr × Nat) := [(0, .aload_n 0, 1), (1, .invokespecial 3, 3), (4, .aload_n 0, 1), (5, .sipush 400, 3), (8, .anewarray 9, 3), (11, .putfield 11, 3), (14, .aload_n 0, 1), (15, .sipush 400, 3), (18, .newarray .int, 2), (20, .putfield 17, 3), (23, .aload_n 0, 1), (24, .sipush 400, 3), (27, .newarray .int, 2), (29, .putfield 21, 3), (32, .aload_n 0, 1), (33, .sipush 400, 3), (36, .newarray .int, 2), (38, .putfield 24, 3), (41, .aload_n 0, 1), (42, .bipush 13, 2), (44, .newarray .int, 2), (46, .putfield 27, 3), (49, .aload_n 0, 1), (50, .bipush 13, 2), (52, .newarray .int, 2), (54, .putfield 30, 3), (57, .aload_n 0, 1), (58, .bipush 13, 2), (60, .newarray .int, 2), (62, .putfield 33, 3), (65, .aload_n 0, 1), (66, .bipush 13, 2), (68, .newarray .int, 2), (70, .putfield 36, 3), (73, .return_, 1)]
set_option maxRecDepth 100000 in
theorem R_init_d : ax_T R_init_c R_init_t := by unfold ax_T; decide +kernel
abbrev R_read_c : ByteArray := prog_9_method_2_code
def R_read_y : MethodName := ⟨"NumberFunctions$Reader", "read", "([BILNumberFunctions$Fault;)V"⟩
def R_read_t : List (Nat × Instr × Nat) := [(0, .aload_n 0, 1), (1, .aload_n 1, 1), (2, .putfield 39, 3), (5, .aload_n 0, 1), (6, .iload_n 2, 1), (7, .putfield 43, 3), (10, .aload_n 0, 1), (11, .iconst 0, 1), (12, .putfield 47, 3), (15, .aload_n 0, 1), (16, .iconst 0, 1), (17, .putfield 50, 3), (20, .aload_n 0, 1), (21, .getfield 30, 3), (24, .iconst 0, 1), (25, .iconst 0, 1), (26, .iastore, 1), (27, .aload_n 0, 1), (28, .iconst 0, 1), (29, .invokevirtual 53, 3), (32, .istore 4, 2), (34, .iconst 0, 1), (35, .istore 5, 2), (37, .iload 5, 2), (39, .sipush 400, 3), (42, .if_icmp .gt 59, 3), (45, .iload 4, 2), (47, .aload_n 0, 1), (48, .getfield 43, 3), (51, .if_icmp .ge 50, 3), (54, .aload_n 0, 1), (55, .iload 4, 2), (57, .invokevirtual 57, 3), (60, .istore 6, 2), (62, .aload_n 0, 1), (63, .iload 4, 2), (65, .iload 6, 2), (67, .invokevirtual 60, 3), (70, .istore 7, 2), (72, .iload 7, 2), (74, .iconst (-1), 1), (75, .if_icmp .eq 12, 3), (78, .aload_n 3, 1), (79, .iload 7, 2), (81, .iload 4, 2), (83, .invokevirtual 64, 3), (86, .return_, 1), (87, .aload_n 0, 1), (88, .iload 6, 2), (90, .invokevirtual 53, 3), (93, .istore 4, 2), (95, .iinc 5 1, 3), (98, .goto (-61), 3), (101, .aload_n 0, 1), (102, .getfield 47, 3), (105, .ifCond .eq 10, 3), (108, .aload_n 0, 1), (109, .getfield 50, 3), (112, .ifCond .le 13, 3), (115, .aload_n 3, 1), (116, .bipush 7, 2), (118, .aload_n 0, 1), (119, .getfield 43, 3), (122, .invokevirtual 64, 3), (125, .return_, 1)]
set_option maxRecDepth 100000 in
theorem R_read_d : ax_T R_read_c R_read_t := by unfold ax_T; decide +kernel
abbrev R_wordStart_c : ByteArray := prog_9_method_3_code
def R_wordStart_y : MethodName := ⟨"NumberFunctions$Reader", "wordStart", "(I)I"⟩
def R_wordStart_t : List (Nat × Instr × Nat) := [(0, .iload_n 1, 1), (1, .istore_n 2, 1), (2, .iload_n 2, 1), (3, .aload_n 0, 1), (4, .getfield 43, 3), (7, .if_icmp .ge 19, 3), (10, .aload_n 0, 1), (11, .iload_n 2, 1), (12, .invokevirtual 70, 3), (15, .bipush 32, 2), (17, .if_icmp .gt 9, 3), (20, .iinc 2 1, 3), (23, .goto (-21), 3), (26, .iload_n 2, 1), (27, .ireturn, 1)]
set_option maxRecDepth 100000 in
theorem R_wordStart_d : ax_T R_wordStart_c R_wordStart_t := by unfold ax_T; decide +kernel
abbrev R_signAt_c : ByteArray := prog_9_method_5_code
def R_signAt_y : MethodName := ⟨"NumberFunctions$Reader", "signAt", "(I)I"⟩
def R_signAt_t : List (Nat × Instr × Nat) := [(0, .iload_n 1, 1), (1, .ifCond .lt 11, 3), (4, .iload_n 1, 1), (5, .aload_n 0, 1), (6, .getfield 43, 3), (9, .if_icmp .lt 7, 3), (12, .iconst 0, 1), (13, .goto 13, 3), (16, .aload_n 0, 1), (17, .getfield 39, 3), (20, .iload_n 1, 1), (21, .baload, 1), (22, .sipush 255, 3), (25, .iand, 1), (26, .ireturn, 1)]
set_option maxRecDepth 100000 in
theorem R_signAt_d : ax_T R_signAt_c R_signAt_t := by unfold ax_T; decide +kernel
abbrev R_wordEnd_c : ByteArray := prog_9_method_4_code
def R_wordEnd_y : MethodName := ⟨"NumberFunctions$Reader", "wordEnd", "(I)I"⟩
def R_wordEnd_t : List (Nat × Instr × Nat) := [(0, .aload_n 0, 1), (1, .iload_n 1, 1), (2, .invokevirtual 70, 3), (5, .invokestatic 73, 3), (8, .ifCond .eq 7, 3), (11, .iload_n 1, 1), (12, .iconst 1, 1), (13, .iadd, 1), (14, .ireturn, 1), (15, .iload_n 1, 1), (16, .iconst 1, 1), (17, .iadd, 1), (18, .istore_n 2, 1), (19, .iload_n 2, 1), (20, .aload_n 0, 1), (21, .getfield 43, 3), (24, .if_icmp .ge 30, 3), (27, .aload_n 0, 1), (28, .iload_n 2, 1), (29, .invokevirtual 70, 3), (32, .bipush 32, 2), (34, .if_icmp .le 20, 3), (37, .aload_n 0, 1), (38, .iload_n 2, 1), (39, .invokevirtual 70, 3), (42, .invokestatic 73, 3), (45, .ifCond .ne 9, 3), (48, .iinc 2 1, 3), (51, .goto (-32), 3), (54, .iload_n 2, 1), (55, .ireturn, 1)]
set_option maxRecDepth 100000 in
theorem R_wordEnd_d : ax_T R_wordEnd_c R_wordEnd_t := by unfold ax_T; decide +kernel
abbrev R_isBrace_c : ByteArray := prog_9_method_6_code
def R_isBrace_y : MethodName := ⟨"NumberFunctions$Reader", "isBrace", "(I)Z"⟩
def R_isBrace_t : List (Nat × Instr × Nat) := [(0, .iload_n 0, 1), (1, .bipush 123, 2), (3, .if_icmp .eq 9, 3), (6, .iload_n 0, 1), (7, .bipush 125, 2), (9, .if_icmp .ne 7, 3), (12, .iconst 1, 1), (13, .goto 4, 3), (16, .iconst 0, 1), (17, .ireturn, 1)]
set_option maxRecDepth 100000 in
theorem R_isBrace_d : ax_T R_isBrace_c R_isBrace_t := by unfold ax_T; decide +kernel
abbrev R_take_c : ByteArray := prog_9_method_7_code
def R_take_y : MethodName := ⟨"NumberFunctions$Reader", "take", "(II)I"⟩
def R_take_t : List (Nat × Instr × Nat) := [(0, .aload_n 0, 1), (1, .getfield 47, 3), (4, .sipush 400, 3), (7, .if_icmp .lt 5, 3), (10, .iconst 5, 1), (11, .ireturn, 1), (12, .aload_n 0, 1), (13, .getfield 39, 3), (16, .iload_n 1, 1), (17, .iload_n 2, 1), (18, .invokestatic 77, 3), (21, .astore_n 3, 1), (22, .aload_n 0, 1), (23, .aload_n 3, 1), (24, .invokevirtual 81, 3), (27, .ifCond .eq 6, 3), (30, .bipush 7, 2), (32, .ireturn, 1), (33, .aload_n 3, 1), (34, .getstatic 85, 3), (37, .if_acmp .ne 15, 3), (40, .aload_n 0, 1), (41, .getfield 50, 3), (44, .bipush 12, 2), (46, .if_icmp .lt 6, 3), (49, .bipush 6, 2), (51, .ireturn, 1), (52, .aload_n 0, 1), (53, .iconst 0, 1), (54, .putfield 89, 3), (57, .aload_n 3, 1), (58, .ifnonnull 24, 3), (61, .aload_n 0, 1), (62, .iload_n 1, 1), (63, .iload_n 2, 1), (64, .invokevirtual 92, 3), (67, .istore 4, 2), (69, .iload 4, 2), (71, .iconst (-1), 1), (72, .if_icmp .eq 6, 3), (75, .iload 4, 2), (77, .ireturn, 1), (78, .getstatic 95, 3), (81, .astore_n 3, 1), (82, .aload_n 0, 1), (83, .aload_n 3, 1), (84, .invokevirtual 98, 3), (87, .iconst (-1), 1), (88, .ireturn, 1)]
set_option maxRecDepth 100000 in
theorem R_take_d : ax_T R_take_c R_take_t := by unfold ax_T; decide +kernel
abbrev R_isMisplaced_c : ByteArray := prog_9_method_8_code
def R_isMisplaced_y : MethodName := ⟨"NumberFunctions$Reader", "isMisplaced", "(LNumberFunctions$Word;)Z"⟩
def R_isMisplaced_t : List (Nat × Instr × Nat) := [(0, .aload_n 0, 1), (1, .getfield 50, 3), (4, .ifCond .ne 23, 3), (7, .aload_n 1, 1), (8, .getstatic 85, 3), (11, .if_acmp .ne 10, 3), (14, .aload_n 0, 1), (15, .getfield 47, 3), (18, .ifCond .le 7, 3), (21, .iconst 1, 1), (22, .goto 4, 3), (25, .iconst 0, 1), (26, .ireturn, 1), (27, .aload_n 1, 1), (28, .getstatic 102, 3), (31, .if_acmp .ne 22, 3), (34, .aload_n 0, 1), (35, .getfield 30, 3), (38, .aload_n 0, 1), (39, .getfield 50, 3), (42, .iaload, 1), (43, .iconst 1, 1), (44, .if_icmp .eq 7, 3), (47, .iconst 1, 1), (48, .goto 4, 3), (51, .iconst 0, 1), (52, .ireturn, 1), (53, .aload_n 1, 1), (54, .getstatic 105, 3), (57, .if_acmp .ne 22, 3), (60, .aload_n 0, 1), (61, .getfield 30, 3), (64, .aload_n 0, 1), (65, .getfield 50, 3), (68, .iaload, 1), (69, .iconst 2, 1), (70, .if_icmp .eq 7, 3), (73, .iconst 1, 1), (74, .goto 4, 3), (77, .iconst 0, 1), (78, .ireturn, 1), (79, .aload_n 1, 1), (80, .getstatic 85, 3), (83, .if_acmp .ne 22, 3), (86, .aload_n 0, 1), (87, .getfield 30, 3), (90, .aload_n 0, 1), (91, .getfield 50, 3), (94, .iaload, 1), (95, .iconst 2, 1), (96, .if_icmp .ne 7, 3), (99, .iconst 1, 1), (100, .goto 4, 3), (103, .iconst 0, 1), (104, .ireturn, 1), (105, .aload_n 0, 1), (106, .getfield 30, 3), (109, .aload_n 0, 1), (110, .getfield 50, 3), (113, .iaload, 1), (114, .ifCond .eq 7, 3), (117, .iconst 1, 1), (118, .goto 4, 3), (121, .iconst 0, 1), (122, .ireturn, 1)]
set_option maxRecDepth 100000 in
theorem R_isMisplaced_d : ax_T R_isMisplaced_c R_isMisplaced_t := by unfold ax_T; decide +kernel
abbrev R_readNumeral_c : ByteArray := prog_9_method_12_code
def R_readNumeral_y : MethodName := ⟨"NumberFunctions$Reader", "readNumeral", "(II)I"⟩
def R_readNumeral_t : List (Nat × Instr × Nat) := [(0, .aload_n 0, 1), (1, .iload_n 1, 1), (2, .invokevirtual 70, 3), (5, .bipush 43, 2), (7, .if_icmp .eq 13, 3), (10, .aload_n 0, 1), (11, .iload_n 1, 1), (12, .invokevirtual 70, 3), (15, .bipush 45, 2), (17, .if_icmp .ne 7, 3), (20, .iconst 1, 1), (21, .goto 4, 3), (24, .iconst 0, 1), (25, .istore_n 3, 1), (26, .iload_n 3, 1), (27, .ifCond .eq 9, 3), (30, .iload_n 1, 1), (31, .iconst 1, 1), (32, .iadd, 1), (33, .goto 4, 3), (36, .iload_n 1, 1), (37, .istore 4, 2), (39, .aload_n 0, 1), (40, .iload 4, 2), (42, .iload_n 2, 1), (43, .invokevirtual 121, 3), (46, .istore 5, 2), (48, .iload 5, 2), (50, .iload_n 2, 1), (51, .if_icmp .ge 18, 3), (54, .aload_n 0, 1), (55, .iload 5, 2), (57, .invokevirtual 70, 3), (60, .bipush 46, 2), (62, .if_icmp .ne 7, 3), (65, .iconst 1, 1), (66, .goto 4, 3), (69, .iconst 0, 1), (70, .istore 6, 2), (72, .iload 6, 2), (74, .ifCond .eq 15, 3), (77, .aload_n 0, 1), (78, .iload 5, 2), (80, .iconst 1, 1), (81, .iadd, 1), (82, .iload_n 2, 1), (83, .invokevirtual 121, 3), (86, .goto 5, 3), (89, .iload 5, 2), (91, .istore 7, 2), (93, .iload 5, 2), (95, .iload 4, 2), (97, .if_icmp .eq 18, 3), (100, .iload 7, 2), (102, .iload 5, 2), (104, .iconst 1, 1), (105, .iadd, 1), (106, .if_icmp .eq 9, 3), (109, .iload 7, 2), (111, .iload_n 2, 1), (112, .if_icmp .eq 5, 3), (115, .iconst 4, 1), (116, .ireturn, 1), (117, .aload_n 0, 1), (118, .iload 4, 2), (120, .iload 5, 2), (122, .invokevirtual 124, 3), (125, .istore 8, 2), (127, .iload 8, 2), (129, .sipush 16383, 3), (132, .if_icmp .le 5, 3), (135, .iconst 3, 1), (136, .ireturn, 1), (137, .iload 8, 2), (139, .ldc 127, 2), (141, .imul, 1), (142, .aload_n 0, 1), (143, .iload 5, 2), (145, .iconst 1, 1), (146, .iadd, 1), (147, .iload_n 2, 1), (148, .invokevirtual 128, 3), (151, .iadd, 1), (152, .istore 9, 2), (154, .aload_n 0, 1), (155, .aload_n 0, 1), (156, .iload_n 1, 1), (157, .invokevirtual 70, 3), (160, .bipush 45, 2), (162, .if_icmp .ne 9, 3), (165, .iload 9, 2), (167, .ineg, 1), (168, .goto 5, 3), (171, .iload 9, 2), (173, .putfield 89, 3), (176, .iconst (-1), 1), (177, .ireturn, 1)]
set_option maxRecDepth 100000 in
theorem R_readNumeral_d : ax_T R_readNumeral_c R_readNumeral_t := by unfold ax_T; decide +kernel
abbrev R_digitsEnd_c : ByteArray := prog_9_method_13_code
def R_digitsEnd_y : MethodName := ⟨"NumberFunctions$Reader", "digitsEnd", "(II)I"⟩
def R_digitsEnd_t : List (Nat × Instr × Nat) := [(0, .iload_n 1, 1), (1, .istore_n 3, 1), (2, .iload_n 3, 1), (3, .iload_n 2, 1), (4, .if_icmp .ge 29, 3), (7, .aload_n 0, 1), (8, .iload_n 3, 1), (9, .invokevirtual 70, 3), (12, .bipush 48, 2), (14, .if_icmp .lt 19, 3), (17, .aload_n 0, 1), (18, .iload_n 3, 1), (19, .invokevirtual 70, 3), (22, .bipush 57, 2), (24, .if_icmp .gt 9, 3), (27, .iinc 3 1, 3), (30, .goto (-28), 3), (33, .iload_n 3, 1), (34, .ireturn, 1)]
set_option maxRecDepth 100000 in
theorem R_digitsEnd_d : ax_T R_digitsEnd_c R_digitsEnd_t := by unfold ax_T; decide +kernel
abbrev R_wholePart_c : ByteArray := prog_9_method_14_code
def R_wholePart_y : MethodName := ⟨"NumberFunctions$Reader", "wholePart", "(II)I"⟩
def R_wholePart_t : List (Nat × Instr × Nat) := [(0, .iconst 0, 1), (1, .istore_n 3, 1), (2, .iload_n 1, 1), (3, .istore 4, 2), (5, .iload 4, 2), (7, .iload_n 2, 1), (8, .if_icmp .ge 30, 3), (11, .iload_n 3, 1), (12, .bipush 10, 2), (14, .imul, 1), (15, .aload_n 0, 1), (16, .iload 4, 2), (18, .invokevirtual 70, 3), (21, .iadd, 1), (22, .bipush 48, 2), (24, .isub, 1), (25, .sipush 16384, 3), (28, .invokestatic 131, 3), (31, .istore_n 3, 1), (32, .iinc 4 1, 3), (35, .goto (-30), 3), (38, .iload_n 3, 1), (39, .ireturn, 1)]
set_option maxRecDepth 100000 in
theorem R_wholePart_d : ax_T R_wholePart_c R_wholePart_t := by unfold ax_T; decide +kernel
abbrev R_fractionPart_c : ByteArray := prog_9_method_15_code
def R_fractionPart_y : MethodName := ⟨"NumberFunctions$Reader", "fractionPart", "(II)I"⟩
def R_fractionPart_t : List (Nat × Instr × Nat) := [(0, .lconst 0, 1), (1, .lstore_n 3, 1), (2, .iload_n 1, 1), (3, .istore 5, 2), (5, .iload 5, 2), (7, .iload_n 1, 1), (8, .bipush 9, 2), (10, .iadd, 1), (11, .if_icmp .ge 36, 3), (14, .lload_n 3, 1), (15, .ldc2_w 136, 3), (18, .lmul, 1), (19, .iload 5, 2), (21, .iload_n 2, 1), (22, .if_icmp .ge 15, 3), (25, .aload_n 0, 1), (26, .iload 5, 2), (28, .invokevirtual 70, 3), (31, .bipush 48, 2), (33, .isub, 1), (34, .goto 4, 3), (37, .iconst 0, 1), (38, .i2l, 1), (39, .ladd, 1), (40, .lstore_n 3, 1), (41, .iinc 5 1, 3), (44, .goto (-39), 3), (47, .lload_n 3, 1), (48, .ldc2_w 138, 3), (51, .lmul, 1), (52, .ldc2_w 140, 3), (55, .ldiv, 1), (56, .l2i, 1), (57, .ireturn, 1)]
set_option maxRecDepth 100000 in
theorem R_fractionPart_d : ax_T R_fractionPart_c R_fractionPart_t := by unfold ax_T; decide +kernel
abbrev R_put_c : ByteArray := prog_9_method_9_code
def R_put_y : MethodName := ⟨"NumberFunctions$Reader", "put", "(LNumberFunctions$Word;)V"⟩
def R_put_t : List (Nat × Instr × Nat) := [(0, .aload_n 0, 1), (1, .getfield 47, 3), (4, .istore_n 2, 1), (5, .aload_n 0, 1), (6, .dup, 1), (7, .getfield 47, 3), (10, .iconst 1, 1), (11, .iadd, 1), (12, .putfield 47, 3), (15, .aload_n 0, 1), (16, .getfield 11, 3), (19, .iload_n 2, 1), (20, .aload_n 1, 1), (21, .aastore, 1), (22, .aload_n 0, 1), (23, .getfield 17, 3), (26, .iload_n 2, 1), (27, .aload_n 0, 1), (28, .getfield 89, 3), (31, .iastore, 1), (32, .aload_n 0, 1), (33, .getfield 21, 3), (36, .iload_n 2, 1), (37, .aload_n 0, 1), (38, .getfield 47, 3), (41, .iastore, 1), (42, .aload_n 0, 1), (43, .getfield 24, 3), (46, .iload_n 2, 1), (47, .aload_n 0, 1), (48, .getfield 47, 3), (51, .iastore, 1), (52, .aload_n 1, 1), (53, .getstatic 85, 3), (56, .if_acmp .ne 36, 3), (59, .aload_n 0, 1), (60, .dup, 1), (61, .getfield 50, 3), (64, .iconst 1, 1), (65, .iadd, 1), (66, .putfield 50, 3), (69, .aload_n 0, 1), (70, .getfield 27, 3), (73, .aload_n 0, 1), (74, .getfield 50, 3), (77, .iload_n 2, 1), (78, .iastore, 1), (79, .aload_n 0, 1), (80, .getfield 30, 3), (83, .aload_n 0, 1), (84, .getfield 50, 3), (87, .iconst 0, 1), (88, .iastore, 1), (89, .goto 31, 3), (92, .aload_n 1, 1), (93, .getstatic 108, 3), (96, .if_acmp .ne 10, 3), (99, .aload_n 0, 1), (100, .invokevirtual 111, 3), (103, .goto 17, 3), (106, .aload_n 1, 1), (107, .getfield 114, 3), (110, .bipush 9, 2), (112, .if_icmp .ne 8, 3), (115, .aload_n 0, 1), (116, .iload_n 2, 1), (117, .invokevirtual 117, 3), (120, .return_, 1)]
set_option maxRecDepth 100000 in
theorem R_put_d : ax_T R_put_c R_put_t := by unfold ax_T; decide +kernel
abbrev R_close_c : ByteArray := prog_9_method_10_code
def R_close_y : MethodName := ⟨"NumberFunctions$Reader", "close", "()V"⟩
def R_close_t : List (Nat × Instr × Nat) := [(0, .aload_n 0, 1), (1, .getfield 27, 3), (4, .aload_n 0, 1), (5, .getfield 50, 3), (8, .iaload, 1), (9, .istore_n 1, 1), (10, .aload_n 0, 1), (11, .dup, 1), (12, .getfield 50, 3), (15, .iconst 1, 1), (16, .isub, 1), (17, .putfield 50, 3), (20, .aload_n 0, 1), (21, .getfield 30, 3), (24, .aload_n 0, 1), (25, .getfield 50, 3), (28, .iaload, 1), (29, .ifCond .ne 16, 3), (32, .aload_n 0, 1), (33, .getfield 33, 3), (36, .aload_n 0, 1), (37, .getfield 50, 3), (40, .iload_n 1, 1), (41, .iastore, 1), (42, .goto 13, 3), (45, .aload_n 0, 1), (46, .getfield 36, 3), (49, .aload_n 0, 1), (50, .getfield 50, 3), (53, .iload_n 1, 1), (54, .iastore, 1), (55, .aload_n 0, 1), (56, .getfield 30, 3), (59, .aload_n 0, 1), (60, .getfield 50, 3), (63, .dup2, 1), (64, .iaload, 1), (65, .iconst 1, 1), (66, .iadd, 1), (67, .iastore, 1), (68, .return_, 1)]
set_option maxRecDepth 100000 in
theorem R_close_d : ax_T R_close_c R_close_t := by unfold ax_T; decide +kernel
abbrev R_joinChoice_c : ByteArray := prog_9_method_11_code
def R_joinChoice_y : MethodName := ⟨"NumberFunctions$Reader", "joinChoice", "(I)V"⟩
def R_joinChoice_t : List (Nat × Instr × Nat) := [(0, .aload_n 0, 1), (1, .getfield 33, 3), (4, .aload_n 0, 1), (5, .getfield 50, 3), (8, .iaload, 1), (9, .istore_n 2, 1), (10, .aload_n 0, 1), (11, .getfield 21, 3), (14, .iload_n 2, 1), (15, .iload_n 1, 1), (16, .iastore, 1), (17, .aload_n 0, 1), (18, .getfield 21, 3), (21, .iload_n 1, 1), (22, .iload_n 2, 1), (23, .iconst 1, 1), (24, .iadd, 1), (25, .iastore, 1), (26, .aload_n 0, 1), (27, .getfield 21, 3), (30, .iload_n 1, 1), (31, .iconst 1, 1), (32, .isub, 1), (33, .iload_n 1, 1), (34, .iconst 1, 1), (35, .iadd, 1), (36, .iastore, 1), (37, .aload_n 0, 1), (38, .getfield 30, 3), (41, .aload_n 0, 1), (42, .getfield 50, 3), (45, .iaload, 1), (46, .iconst 2, 1), (47, .if_icmp .ne 33, 3), (50, .aload_n 0, 1), (51, .getfield 36, 3), (54, .aload_n 0, 1), (55, .getfield 50, 3), (58, .iaload, 1), (59, .istore_n 3, 1), (60, .aload_n 0, 1), (61, .getfield 21, 3), (64, .iload_n 3, 1), (65, .iconst 1, 1), (66, .isub, 1), (67, .iload_n 1, 1), (68, .iconst 1, 1), (69, .iadd, 1), (70, .iastore, 1), (71, .aload_n 0, 1), (72, .getfield 24, 3), (75, .iload_n 1, 1), (76, .iload_n 3, 1), (77, .iconst 1, 1), (78, .iadd, 1), (79, .iastore, 1), (80, .aload_n 0, 1), (81, .getfield 30, 3), (84, .aload_n 0, 1), (85, .getfield 50, 3), (88, .iconst 0, 1), (89, .iastore, 1), (90, .return_, 1)]
set_option maxRecDepth 100000 in
theorem R_joinChoice_d : ax_T R_joinChoice_c R_joinChoice_t := by unfold ax_T; decide +kernel
abbrev O_spelled_c : ByteArray := prog_13_method_4_code
def O_spelled_y : MethodName := ⟨"NumberFunctions$Word", "spelled", "([BII)LNumberFunctions$Word;"⟩
def O_spelled_t : List (Nat × Instr × Nat) := [(0, .getstatic 153, 3), (3, .astore_n 3, 1), (4, .aload_n 3, 1), (5, .arraylength, 1), (6, .istore 4, 2), (8, .iconst 0, 1), (9, .istore 5, 2), (11, .iload 5, 2), (13, .iload 4, 2), (15, .if_icmp .ge 42, 3), (18, .aload_n 3, 1), (19, .iload 5, 2), (21, .aaload, 1), (22, .astore 6, 2), (24, .aload 6, 2), (26, .getfield 142, 3), (29, .invokevirtual 156, 3), (32, .iload_n 2, 1), (33, .iload_n 1, 1), (34, .isub, 1), (35, .if_icmp .ne 16, 3), (38, .aload 6, 2), (40, .aload_n 0, 1), (41, .iload_n 1, 1), (42, .invokevirtual 162, 3), (45, .ifCond .eq 6, 3), (48, .aload 6, 2), (50, .areturn, 1), (51, .iinc 5 1, 3), (54, .goto (-43), 3), (57, .aconst_null, 1), (58, .areturn, 1)]
set_option maxRecDepth 100000 in
theorem O_spelled_d : ax_T O_spelled_c O_spelled_t := by unfold ax_T; decide +kernel
abbrev O_isAt_c : ByteArray := prog_13_method_5_code
def O_isAt_y : MethodName := ⟨"NumberFunctions$Word", "isAt", "([BI)Z"⟩
def O_isAt_t : List (Nat × Instr × Nat) := [(0, .iconst 0, 1), (1, .istore_n 3, 1), (2, .iload_n 3, 1), (3, .aload_n 0, 1), (4, .getfield 142, 3), (7, .invokevirtual 156, 3), (10, .if_icmp .ge 27, 3), (13, .aload_n 1, 1), (14, .iload_n 2, 1), (15, .iload_n 3, 1), (16, .iadd, 1), (17, .baload, 1), (18, .aload_n 0, 1), (19, .getfield 142, 3), (22, .iload_n 3, 1), (23, .invokevirtual 166, 3), (26, .if_icmp .eq 5, 3), (29, .iconst 0, 1), (30, .ireturn, 1), (31, .iinc 3 1, 3), (34, .goto (-32), 3), (37, .iconst 1, 1), (38, .ireturn, 1)]
set_option maxRecDepth 100000 in
theorem O_isAt_d : ax_T O_isAt_c O_isAt_t := by unfold ax_T; decide +kernel
end
section
abbrev K_init_c : ByteArray := prog_5_method_1_code
def K_init_y : MethodName := ⟨"NumberFunctions$Machine", "<init>", "()V"⟩
def K_init_t : List (Nat × Instr × Nat) := [(0, .aload_n 0, 1), (1, .invokespecial 3, 3), (4, .aload_n 0, 1), (5, .bipush 60, 2), (7, .newarray .int, 2), (9, .putfield 9, 3), (12, .aload_n 0, 1), (13, .bipush 60, 2), (15, .newarray .boolean, 2), (17, .putfield 15, 3), (20, .return_, 1)]
set_option maxRecDepth 100000 in
theorem K_init_d : ax_T K_init_c K_init_t := by unfold ax_T; decide +kernel
abbrev K_give_c : ByteArray := prog_5_method_3_code
def K_give_y : MethodName := ⟨"NumberFunctions$Machine", "give", "(IJZ)I"⟩
def K_give_t : List (Nat × Instr × Nat) := [(0, .aload_n 0, 1), (1, .getfield 19, 3), (4, .iload_n 1, 1), (5, .isub, 1), (6, .istore 5, 2), (8, .iload 5, 2), (10, .ifCond .ge 6, 3), (13, .bipush 9, 2), (15, .ireturn, 1), (16, .iload 5, 2), (18, .bipush 60, 2), (20, .if_icmp .lt 6, 3), (23, .bipush 8, 2), (25, .ireturn, 1), (26, .aload_n 0, 1), (27, .getfield 9, 3), (30, .iload 5, 2), (32, .lload_n 2, 1), (33, .invokestatic 74, 3), (36, .iastore, 1), (37, .aload_n 0, 1), (38, .getfield 15, 3), (41, .iload 5, 2), (43, .iload 4, 2), (45, .bastore, 1), (46, .aload_n 0, 1), (47, .iload 5, 2), (49, .iconst 1, 1), (50, .iadd, 1), (51, .putfield 19, 3), (54, .iconst (-1), 1), (55, .ireturn, 1)]
set_option maxRecDepth 100000 in
theorem K_give_d : ax_T K_give_c K_give_t := by unfold ax_T; decide +kernel
abbrev K_perform_c : ByteArray := prog_5_method_2_code
def K_perform_y : MethodName := ⟨"NumberFunctions$Machine", "perform", "(LNumberFunctions$Word;I)I"⟩
def K_perform_t : List (Nat × Instr × Nat) := [(0, .aload_n 0, 1), (1, .getfield 19, 3), (4, .aload_n 1, 1), (5, .getfield 23, 3), (8, .if_icmp .ge 6, 3), (11, .bipush 9, 2), (13, .ireturn, 1), (14, .aload_n 1, 1), (15, .getfield 28, 3), (18, .tableswitch 132 1 9 #[50, 57, 63, 69, 75, 81, 101, 107, 127], 50), (68, .aload_n 0, 1), (69, .aload_n 1, 1), (70, .iload_n 2, 1), (71, .invokevirtual 31, 3), (74, .ireturn, 1), (75, .aload_n 0, 1), (76, .aload_n 1, 1), (77, .invokevirtual 35, 3), (80, .ireturn, 1), (81, .aload_n 0, 1), (82, .aload_n 1, 1), (83, .invokevirtual 39, 3), (86, .ireturn, 1), (87, .aload_n 0, 1), (88, .aload_n 1, 1), (89, .invokevirtual 42, 3), (92, .ireturn, 1), (93, .aload_n 0, 1), (94, .aload_n 1, 1), (95, .invokevirtual 45, 3), (98, .ireturn, 1), (99, .aload_n 1, 1), (100, .getstatic 48, 3), (103, .if_acmp .ne 10, 3), (106, .aload_n 0, 1), (107, .invokevirtual 52, 3), (110, .goto 8, 3), (113, .aload_n 0, 1), (114, .aload_n 1, 1), (115, .invokevirtual 56, 3), (118, .ireturn, 1), (119, .aload_n 0, 1), (120, .aload_n 1, 1), (121, .invokevirtual 59, 3), (124, .ireturn, 1), (125, .aload_n 1, 1), (126, .getstatic 62, 3), (129, .if_acmp .ne 10, 3), (132, .aload_n 0, 1), (133, .invokevirtual 65, 3), (136, .goto 8, 3), (139, .aload_n 0, 1), (140, .aload_n 1, 1), (141, .invokevirtual 68, 3), (144, .ireturn, 1), (145, .aload_n 0, 1), (146, .invokevirtual 71, 3), (149, .ireturn, 1), (150, .iconst (-1), 1), (151, .ireturn, 1)]
set_option maxRecDepth 100000 in
theorem K_perform_d : ax_T K_perform_c K_perform_t := by unfold ax_T; decide +kernel
abbrev K_constant_c : ByteArray := prog_5_method_6_code
def K_constant_y : MethodName := ⟨"NumberFunctions$Machine", "constant", "(LNumberFunctions$Word;I)I"⟩
def K_constant_t : List (Nat × Instr × Nat) := [(0, .aload_n 1, 1), (1, .getstatic 84, 3), (4, .if_acmp .ne 14, 3), (7, .aload_n 0, 1), (8, .iconst 0, 1), (9, .iload_n 2, 1), (10, .i2l, 1), (11, .iconst 0, 1), (12, .invokevirtual 80, 3), (15, .goto 20, 3), (18, .aload_n 0, 1), (19, .iconst 0, 1), (20, .aload_n 1, 1), (21, .getstatic 87, 3), (24, .if_acmp .ne 7, 3), (27, .iconst 1, 1), (28, .goto 4, 3), (31, .iconst 0, 1), (32, .invokevirtual 90, 3), (35, .ireturn, 1)]
set_option maxRecDepth 100000 in
theorem K_constant_d : ax_T K_constant_c K_constant_t := by unfold ax_T; decide +kernel
abbrev K_giveTruth_c : ByteArray := prog_5_method_5_code
def K_giveTruth_y : MethodName := ⟨"NumberFunctions$Machine", "giveTruth", "(IZ)I"⟩
def K_giveTruth_t : List (Nat × Instr × Nat) := [(0, .aload_n 0, 1), (1, .iload_n 1, 1), (2, .iload_n 2, 1), (3, .ifCond .eq 7, 3), (6, .lconst 1, 1), (7, .goto 4, 3), (10, .lconst 0, 1), (11, .iconst 1, 1), (12, .invokevirtual 80, 3), (15, .ireturn, 1)]
set_option maxRecDepth 100000 in
theorem K_giveTruth_d : ax_T K_giveTruth_c K_giveTruth_t := by unfold ax_T; decide +kernel
abbrev K_oneNumber_c : ByteArray := prog_5_method_7_code
def K_oneNumber_y : MethodName := ⟨"NumberFunctions$Machine", "oneNumber", "(LNumberFunctions$Word;)I"⟩
def K_oneNumber_t : List (Nat × Instr × Nat) := [(0, .aload_n 0, 1), (1, .getfield 9, 3), (4, .aload_n 0, 1), (5, .getfield 19, 3), (8, .iconst 1, 1), (9, .isub, 1), (10, .iaload, 1), (11, .istore_n 2, 1), (12, .aload_n 0, 1), (13, .getfield 15, 3), (16, .aload_n 0, 1), (17, .getfield 19, 3), (20, .iconst 1, 1), (21, .isub, 1), (22, .baload, 1), (23, .ifCond .eq 6, 3), (26, .bipush 10, 2), (28, .ireturn, 1), (29, .aload_n 1, 1), (30, .getstatic 94, 3), (33, .if_acmp .ne 10, 3), (36, .iload_n 2, 1), (37, .ifCond .ge 6, 3), (40, .bipush 12, 2), (42, .ireturn, 1), (43, .aload_n 0, 1), (44, .iconst 1, 1), (45, .aload_n 1, 1), (46, .iload_n 2, 1), (47, .invokestatic 97, 3), (50, .i2l, 1), (51, .iconst 0, 1), (52, .invokevirtual 80, 3), (55, .ireturn, 1)]
set_option maxRecDepth 100000 in
theorem K_oneNumber_d : ax_T K_oneNumber_c K_oneNumber_t := by unfold ax_T; decide +kernel
abbrev K_ofOneNumber_c : ByteArray := prog_5_method_8_code
def K_ofOneNumber_y : MethodName := ⟨"NumberFunctions$Machine", "ofOneNumber", "(LNumberFunctions$Word;I)I"⟩
def K_ofOneNumber_t : List (Nat × Instr × Nat) := [(0, .getstatic 100, 3), (3, .aload_n 0, 1), (4, .invokevirtual 105, 3), (7, .iaload, 1), (8, .tableswitch 86 1 8 #[48, 53, 56, 63, 68, 76, 76, 81], 48), (56, .iload_n 1, 1), (57, .invokestatic 108, 3), (60, .ireturn, 1), (61, .iload_n 1, 1), (62, .ineg, 1), (63, .ireturn, 1), (64, .iload_n 1, 1), (65, .ineg, 1), (66, .invokestatic 114, 3), (69, .ineg, 1), (70, .ireturn, 1), (71, .iload_n 1, 1), (72, .invokestatic 114, 3), (75, .ireturn, 1), (76, .iload_n 1, 1), (77, .ldc 117, 2), (79, .iadd, 1), (80, .invokestatic 114, 3), (83, .ireturn, 1), (84, .iload_n 1, 1), (85, .invokestatic 118, 3), (88, .ireturn, 1), (89, .iload_n 1, 1), (90, .invokestatic 121, 3), (93, .ireturn, 1), (94, .iload_n 1, 1), (95, .ireturn, 1)]
set_option maxRecDepth 100000 in
theorem K_ofOneNumber_d : ax_T K_ofOneNumber_c K_ofOneNumber_t := by unfold ax_T; decide +kernel
abbrev K_twoNumbers_c : ByteArray := prog_5_method_9_code
def K_twoNumbers_y : MethodName := ⟨"NumberFunctions$Machine", "twoNumbers", "(LNumberFunctions$Word;)I"⟩
def K_twoNumbers_t : List (Nat × Instr × Nat) := [(0, .aload_n 0, 1), (1, .getfield 9, 3), (4, .aload_n 0, 1), (5, .getfield 19, 3), (8, .iconst 2, 1), (9, .isub, 1), (10, .iaload, 1), (11, .istore_n 2, 1), (12, .aload_n 0, 1), (13, .getfield 9, 3), (16, .aload_n 0, 1), (17, .getfield 19, 3), (20, .iconst 1, 1), (21, .isub, 1), (22, .iaload, 1), (23, .istore_n 3, 1), (24, .aload_n 0, 1), (25, .getfield 15, 3), (28, .aload_n 0, 1), (29, .getfield 19, 3), (32, .iconst 2, 1), (33, .isub, 1), (34, .baload, 1), (35, .ifCond .ne 17, 3), (38, .aload_n 0, 1), (39, .getfield 15, 3), (42, .aload_n 0, 1), (43, .getfield 19, 3), (46, .iconst 1, 1), (47, .isub, 1), (48, .baload, 1), (49, .ifCond .eq 6, 3), (52, .bipush 10, 2), (54, .ireturn, 1), (55, .aload_n 1, 1), (56, .getstatic 124, 3), (59, .if_acmp .ne 10, 3), (62, .iload_n 3, 1), (63, .ifCond .ne 6, 3), (66, .bipush 13, 2), (68, .ireturn, 1), (69, .aload_n 0, 1), (70, .iconst 2, 1), (71, .aload_n 1, 1), (72, .iload_n 2, 1), (73, .iload_n 3, 1), (74, .invokestatic 127, 3), (77, .iconst 0, 1), (78, .invokevirtual 80, 3), (81, .ireturn, 1)]
set_option maxRecDepth 100000 in
theorem K_twoNumbers_d : ax_T K_twoNumbers_c K_twoNumbers_t := by unfold ax_T; decide +kernel
abbrev K_ofTwoNumbers_c : ByteArray := prog_5_method_10_code
def K_ofTwoNumbers_y : MethodName := ⟨"NumberFunctions$Machine", "ofTwoNumbers", "(LNumberFunctions$Word;II)J"⟩
def K_ofTwoNumbers_t : List (Nat × Instr × Nat) := [(0, .getstatic 100, 3), (3, .aload_n 0, 1), (4, .invokevirtual 105, 3), (7, .iaload, 1), (8, .tableswitch 47 9 11 #[28, 34, 40], 28), (36, .iload_n 1, 1), (37, .i2l, 1), (38, .iload_n 2, 1), (39, .i2l, 1), (40, .ladd, 1), (41, .lreturn, 1), (42, .iload_n 1, 1), (43, .i2l, 1), (44, .iload_n 2, 1), (45, .i2l, 1), (46, .lsub, 1), (47, .lreturn, 1), (48, .iload_n 1, 1), (49, .iload_n 2, 1), (50, .invokestatic 131, 3), (53, .i2l, 1), (54, .lreturn, 1), (55, .iload_n 1, 1), (56, .iload_n 2, 1), (57, .invokestatic 135, 3), (60, .i2l, 1), (61, .lreturn, 1)]
set_option maxRecDepth 100000 in
theorem K_ofTwoNumbers_d : ax_T K_ofTwoNumbers_c K_ofTwoNumbers_t := by unfold ax_T; decide +kernel
abbrev K_twoWholes_c : ByteArray := prog_5_method_11_code
def K_twoWholes_y : MethodName := ⟨"NumberFunctions$Machine", "twoWholes", "(LNumberFunctions$Word;)I"⟩
def K_twoWholes_t : List (Nat × Instr × Nat) := [(0, .aload_n 0, 1), (1, .iconst 2, 1), (2, .invokevirtual 138, 3), (5, .istore_n 2, 1), (6, .iload_n 2, 1), (7, .iconst (-1), 1), (8, .if_icmp .eq 5, 3), (11, .iload_n 2, 1), (12, .ireturn, 1), (13, .aload_n 0, 1), (14, .getfield 9, 3), (17, .aload_n 0, 1), (18, .getfield 19, 3), (21, .iconst 2, 1), (22, .isub, 1), (23, .iaload, 1), (24, .ldc 141, 2), (26, .idiv, 1), (27, .istore_n 3, 1), (28, .aload_n 0, 1), (29, .getfield 9, 3), (32, .aload_n 0, 1), (33, .getfield 19, 3), (36, .iconst 1, 1), (37, .isub, 1), (38, .iaload, 1), (39, .ldc 141, 2), (41, .idiv, 1), (42, .istore 4, 2), (44, .aload_n 1, 1), (45, .getstatic 142, 3), (48, .if_acmp .ne 30, 3), (51, .iload 4, 2), (53, .invokestatic 108, 3), (56, .bipush 31, 2), (58, .if_icmp .le 8, 3), (61, .bipush 12, 2), (63, .goto 14, 3), (66, .aload_n 0, 1), (67, .iconst 2, 1), (68, .iload_n 3, 1), (69, .iload 4, 2), (71, .invokestatic 145, 3), (74, .invokevirtual 148, 3), (77, .ireturn, 1), (78, .iload 4, 2), (80, .ifCond .ne 6, 3), (83, .bipush 13, 2), (85, .ireturn, 1), (86, .aload_n 0, 1), (87, .iconst 2, 1), (88, .aload_n 1, 1), (89, .getstatic 151, 3), (92, .if_acmp .ne 10, 3), (95, .iload_n 3, 1), (96, .iload 4, 2), (98, .idiv, 1), (99, .goto 7, 3), (102, .iload_n 3, 1), (103, .iload 4, 2), (105, .irem, 1), (106, .invokevirtual 148, 3), (109, .ireturn, 1)]
set_option maxRecDepth 100000 in
theorem K_twoWholes_d : ax_T K_twoWholes_c K_twoWholes_t := by unfold ax_T; decide +kernel
abbrev K_faultOfWholes_c : ByteArray := prog_5_method_14_code
def K_faultOfWholes_y : MethodName := ⟨"NumberFunctions$Machine", "faultOfWholes", "(I)I"⟩
def K_faultOfWholes_t : List (Nat × Instr × Nat) := [(0, .iconst (-1), 1), (1, .istore_n 2, 1), (2, .aload_n 0, 1), (3, .getfield 19, 3), (6, .iload_n 1, 1), (7, .isub, 1), (8, .istore_n 3, 1), (9, .iload_n 3, 1), (10, .aload_n 0, 1), (11, .getfield 19, 3), (14, .if_icmp .ge 36, 3), (17, .aload_n 0, 1), (18, .getfield 15, 3), (21, .iload_n 3, 1), (22, .baload, 1), (23, .ifCond .eq 6, 3), (26, .bipush 10, 2), (28, .ireturn, 1), (29, .aload_n 0, 1), (30, .getfield 9, 3), (33, .iload_n 3, 1), (34, .iaload, 1), (35, .ldc 141, 2), (37, .irem, 1), (38, .ifCond .eq 6, 3), (41, .bipush 11, 2), (43, .istore_n 2, 1), (44, .iinc 3 1, 3), (47, .goto (-38), 3), (50, .iload_n 2, 1), (51, .ireturn, 1)]
set_option maxRecDepth 100000 in
theorem K_faultOfWholes_d : ax_T K_faultOfWholes_c K_faultOfWholes_t := by unfold ax_T; decide +kernel
abbrev K_shifted_c : ByteArray := prog_5_method_12_code
def K_shifted_y : MethodName := ⟨"NumberFunctions$Machine", "shifted", "(II)I"⟩
def K_shifted_t : List (Nat × Instr × Nat) := [(0, .iload_n 1, 1), (1, .ifCond .ge 10, 3), (4, .iload_n 0, 1), (5, .iload_n 1, 1), (6, .ineg, 1), (7, .iushr, 1), (8, .goto 6, 3), (11, .iload_n 0, 1), (12, .iload_n 1, 1), (13, .ishl, 1), (14, .ireturn, 1)]
set_option maxRecDepth 100000 in
theorem K_shifted_d : ax_T K_shifted_c K_shifted_t := by unfold ax_T; decide +kernel
abbrev K_giveWhole_c : ByteArray := prog_5_method_13_code
def K_giveWhole_y : MethodName := ⟨"NumberFunctions$Machine", "giveWhole", "(II)I"⟩
def K_giveWhole_t : List (Nat × Instr × Nat) := [(0, .aload_n 0, 1), (1, .iload_n 1, 1), (2, .iload_n 2, 1), (3, .i2l, 1), (4, .ldc2_w 154, 3), (7, .lmul, 1), (8, .iconst 0, 1), (9, .invokevirtual 80, 3), (12, .ireturn, 1)]
set_option maxRecDepth 100000 in
theorem K_giveWhole_d : ax_T K_giveWhole_c K_giveWhole_t := by unfold ax_T; decide +kernel
abbrev K_comparison_c : ByteArray := prog_5_method_15_code
def K_comparison_y : MethodName := ⟨"NumberFunctions$Machine", "comparison", "(LNumberFunctions$Word;)I"⟩
def K_comparison_t : List (Nat × Instr × Nat) := [(0, .aload_n 0, 1), (1, .getfield 15, 3), (4, .aload_n 0, 1), (5, .getfield 19, 3), (8, .iconst 2, 1), (9, .isub, 1), (10, .baload, 1), (11, .istore_n 2, 1), (12, .aload_n 0, 1), (13, .getfield 15, 3), (16, .aload_n 0, 1), (17, .getfield 19, 3), (20, .iconst 1, 1), (21, .isub, 1), (22, .baload, 1), (23, .istore_n 3, 1), (24, .aload_n 1, 1), (25, .getstatic 156, 3), (28, .if_acmp .eq 14, 3), (31, .aload_n 1, 1), (32, .getstatic 159, 3), (35, .if_acmp .eq 7, 3), (38, .iconst 1, 1), (39, .goto 4, 3), (42, .iconst 0, 1), (43, .istore 4, 2), (45, .iload_n 2, 1), (46, .iload_n 3, 1), (47, .if_icmp .ne 12, 3), (50, .iload 4, 2), (52, .ifCond .eq 10, 3), (55, .iload_n 2, 1), (56, .ifCond .eq 6, 3), (59, .bipush 10, 2), (61, .ireturn, 1), (62, .aload_n 0, 1), (63, .iconst 2, 1), (64, .aload_n 1, 1), (65, .aload_n 0, 1), (66, .getfield 9, 3), (69, .aload_n 0, 1), (70, .getfield 19, 3), (73, .iconst 2, 1), (74, .isub, 1), (75, .iaload, 1), (76, .aload_n 0, 1), (77, .getfield 9, 3), (80, .aload_n 0, 1), (81, .getfield 19, 3), (84, .iconst 1, 1), (85, .isub, 1), (86, .iaload, 1), (87, .invokestatic 162, 3), (90, .invokevirtual 90, 3), (93, .ireturn, 1)]
set_option maxRecDepth 100000 in
theorem K_comparison_d : ax_T K_comparison_c K_comparison_t := by unfold ax_T; decide +kernel
abbrev K_compared_c : ByteArray := prog_5_method_16_code
def K_compared_y : MethodName := ⟨"NumberFunctions$Machine", "compared", "(LNumberFunctions$Word;II)Z"⟩
def K_compared_t : List (Nat × Instr × Nat) := [(0, .getstatic 100, 3), (3, .aload_n 0, 1), (4, .invokevirtual 105, 3), (7, .iaload, 1), (8, .tableswitch 91 12 16 #[36, 47, 58, 69, 80], 36), (44, .iload_n 1, 1), (45, .iload_n 2, 1), (46, .if_icmp .ne 7, 3), (49, .iconst 1, 1), (50, .goto 4, 3), (53, .iconst 0, 1), (54, .ireturn, 1), (55, .iload_n 1, 1), (56, .iload_n 2, 1), (57, .if_icmp .eq 7, 3), (60, .iconst 1, 1), (61, .goto 4, 3), (64, .iconst 0, 1), (65, .ireturn, 1), (66, .iload_n 1, 1), (67, .iload_n 2, 1), (68, .if_icmp .le 7, 3), (71, .iconst 1, 1), (72, .goto 4, 3), (75, .iconst 0, 1), (76, .ireturn, 1), (77, .iload_n 1, 1), (78, .iload_n 2, 1), (79, .if_icmp .lt 7, 3), (82, .iconst 1, 1), (83, .goto 4, 3), (86, .iconst 0, 1), (87, .ireturn, 1), (88, .iload_n 1, 1), (89, .iload_n 2, 1), (90, .if_icmp .ge 7, 3), (93, .iconst 1, 1), (94, .goto 4, 3), (97, .iconst 0, 1), (98, .ireturn, 1), (99, .iload_n 1, 1), (100, .iload_n 2, 1), (101, .if_icmp .gt 7, 3), (104, .iconst 1, 1), (105, .goto 4, 3), (108, .iconst 0, 1), (109, .ireturn, 1)]
set_option maxRecDepth 100000 in
theorem K_compared_d : ax_T K_compared_c K_compared_t := by unfold ax_T; decide +kernel
abbrev K_negation_c : ByteArray := prog_5_method_19_code
def K_negation_y : MethodName := ⟨"NumberFunctions$Machine", "negation", "()I"⟩
def K_negation_t : List (Nat × Instr × Nat) := [(0, .aload_n 0, 1), (1, .getfield 9, 3), (4, .aload_n 0, 1), (5, .getfield 19, 3), (8, .iconst 1, 1), (9, .isub, 1), (10, .iaload, 1), (11, .istore_n 1, 1), (12, .aload_n 0, 1), (13, .getfield 15, 3), (16, .aload_n 0, 1), (17, .getfield 19, 3), (20, .iconst 1, 1), (21, .isub, 1), (22, .baload, 1), (23, .ifCond .eq 18, 3), (26, .aload_n 0, 1), (27, .iconst 1, 1), (28, .iload_n 1, 1), (29, .ifCond .ne 7, 3), (32, .iconst 1, 1), (33, .goto 4, 3), (36, .iconst 0, 1), (37, .invokevirtual 90, 3), (40, .ireturn, 1), (41, .aload_n 0, 1), (42, .iconst 1, 1), (43, .invokevirtual 138, 3), (46, .istore_n 2, 1), (47, .iload_n 2, 1), (48, .iconst (-1), 1), (49, .if_icmp .eq 7, 3), (52, .iload_n 2, 1), (53, .goto 14, 3), (56, .aload_n 0, 1), (57, .iconst 1, 1), (58, .iload_n 1, 1), (59, .ldc 141, 2), (61, .idiv, 1), (62, .iconst (-1), 1), (63, .ixor, 1), (64, .invokevirtual 148, 3), (67, .ireturn, 1)]
set_option maxRecDepth 100000 in
theorem K_negation_d : ax_T K_negation_c K_negation_t := by unfold ax_T; decide +kernel
abbrev K_logic_c : ByteArray := prog_5_method_17_code
def K_logic_y : MethodName := ⟨"NumberFunctions$Machine", "logic", "(LNumberFunctions$Word;)I"⟩
def K_logic_t : List (Nat × Instr × Nat) := [(0, .aload_n 0, 1), (1, .getfield 9, 3), (4, .aload_n 0, 1), (5, .getfield 19, 3), (8, .iconst 2, 1), (9, .isub, 1), (10, .iaload, 1), (11, .istore_n 2, 1), (12, .aload_n 0, 1), (13, .getfield 9, 3), (16, .aload_n 0, 1), (17, .getfield 19, 3), (20, .iconst 1, 1), (21, .isub, 1), (22, .iaload, 1), (23, .istore_n 3, 1), (24, .aload_n 0, 1), (25, .getfield 15, 3), (28, .aload_n 0, 1), (29, .getfield 19, 3), (32, .iconst 2, 1), (33, .isub, 1), (34, .baload, 1), (35, .ifCond .eq 37, 3), (38, .aload_n 0, 1), (39, .getfield 15, 3), (42, .aload_n 0, 1), (43, .getfield 19, 3), (46, .iconst 1, 1), (47, .isub, 1), (48, .baload, 1), (49, .ifCond .eq 23, 3), (52, .aload_n 0, 1), (53, .iconst 2, 1), (54, .aload_n 1, 1), (55, .iload_n 2, 1), (56, .iload_n 3, 1), (57, .invokestatic 166, 3), (60, .ifCond .eq 7, 3), (63, .iconst 1, 1), (64, .goto 4, 3), (67, .iconst 0, 1), (68, .invokevirtual 90, 3), (71, .ireturn, 1), (72, .aload_n 0, 1), (73, .iconst 2, 1), (74, .invokevirtual 138, 3), (77, .istore 4, 2), (79, .iload 4, 2), (81, .iconst (-1), 1), (82, .if_icmp .eq 8, 3), (85, .iload 4, 2), (87, .goto 20, 3), (90, .aload_n 0, 1), (91, .iconst 2, 1), (92, .aload_n 1, 1), (93, .iload_n 2, 1), (94, .ldc 141, 2), (96, .idiv, 1), (97, .iload_n 3, 1), (98, .ldc 141, 2), (100, .idiv, 1), (101, .invokestatic 166, 3), (104, .invokevirtual 148, 3), (107, .ireturn, 1)]
set_option maxRecDepth 100000 in
theorem K_logic_d : ax_T K_logic_c K_logic_t := by unfold ax_T; decide +kernel
abbrev K_combined_c : ByteArray := prog_5_method_18_code
def K_combined_y : MethodName := ⟨"NumberFunctions$Machine", "combined", "(LNumberFunctions$Word;II)I"⟩
def K_combined_t : List (Nat × Instr × Nat) := [(0, .getstatic 100, 3), (3, .aload_n 0, 1), (4, .invokevirtual 105, 3), (7, .iaload, 1), (8, .lookupswitch 36 #[(17, 28), (18, 32)], 28), (36, .iload_n 1, 1), (37, .iload_n 2, 1), (38, .iand, 1), (39, .ireturn, 1), (40, .iload_n 1, 1), (41, .iload_n 2, 1), (42, .ior, 1), (43, .ireturn, 1), (44, .iload_n 1, 1), (45, .iload_n 2, 1), (46, .ixor, 1), (47, .ireturn, 1)]
set_option maxRecDepth 100000 in
theorem K_combined_d : ax_T K_combined_c K_combined_t := by unfold ax_T; decide +kernel
abbrev K_move_c : ByteArray := prog_5_method_20_code
def K_move_y : MethodName := ⟨"NumberFunctions$Machine", "move", "(LNumberFunctions$Word;)I"⟩
def K_move_t : List (Nat × Instr × Nat) := [(0, .getstatic 100, 3), (3, .aload_n 1, 1), (4, .invokevirtual 105, 3), (7, .iaload, 1), (8, .lookupswitch 56 #[(19, 28), (20, 40)], 28), (36, .aload_n 0, 1), (37, .dup, 1), (38, .getfield 19, 3), (41, .iconst 1, 1), (42, .isub, 1), (43, .putfield 19, 3), (46, .iconst (-1), 1), (47, .ireturn, 1), (48, .aload_n 0, 1), (49, .aload_n 0, 1), (50, .getfield 19, 3), (53, .iconst 2, 1), (54, .isub, 1), (55, .aload_n 0, 1), (56, .getfield 19, 3), (59, .invokevirtual 170, 3), (62, .iconst (-1), 1), (63, .ireturn, 1), (64, .aload_n 0, 1), (65, .iconst 0, 1), (66, .aload_n 0, 1), (67, .getfield 9, 3), (70, .aload_n 0, 1), (71, .getfield 19, 3), (74, .iconst 1, 1), (75, .isub, 1), (76, .iaload, 1), (77, .i2l, 1), (78, .aload_n 0, 1), (79, .getfield 15, 3), (82, .aload_n 0, 1), (83, .getfield 19, 3), (86, .iconst 1, 1), (87, .isub, 1), (88, .baload, 1), (89, .invokevirtual 80, 3), (92, .ireturn, 1)]
set_option maxRecDepth 100000 in
theorem K_move_d : ax_T K_move_c K_move_t := by unfold ax_T; decide +kernel
abbrev K_reverse_c : ByteArray := prog_5_method_25_code
def K_reverse_y : MethodName := ⟨"NumberFunctions$Machine", "reverse", "(II)V"⟩
def K_reverse_t : List (Nat × Instr × Nat) := [(0, .iload_n 1, 1), (1, .istore_n 3, 1), (2, .iload_n 2, 1), (3, .iconst 1, 1), (4, .isub, 1), (5, .istore 4, 2), (7, .iload_n 3, 1), (8, .iload 4, 2), (10, .if_icmp .ge 72, 3), (13, .aload_n 0, 1), (14, .getfield 9, 3), (17, .iload_n 3, 1), (18, .iaload, 1), (19, .istore 5, 2), (21, .aload_n 0, 1), (22, .getfield 15, 3), (25, .iload_n 3, 1), (26, .baload, 1), (27, .istore 6, 2), (29, .aload_n 0, 1), (30, .getfield 9, 3), (33, .iload_n 3, 1), (34, .aload_n 0, 1), (35, .getfield 9, 3), (38, .iload 4, 2), (40, .iaload, 1), (41, .iastore, 1), (42, .aload_n 0, 1), (43, .getfield 15, 3), (46, .iload_n 3, 1), (47, .aload_n 0, 1), (48, .getfield 15, 3), (51, .iload 4, 2), (53, .baload, 1), (54, .bastore, 1), (55, .aload_n 0, 1), (56, .getfield 9, 3), (59, .iload 4, 2), (61, .iload 5, 2), (63, .iastore, 1), (64, .aload_n 0, 1), (65, .getfield 15, 3), (68, .iload 4, 2), (70, .iload 6, 2), (72, .bastore, 1), (73, .iinc 3 1, 3), (76, .iinc 4 (-1), 3), (79, .goto (-72), 3), (82, .return_, 1)]
set_option maxRecDepth 100000 in
theorem K_reverse_d : ax_T K_reverse_c K_reverse_t := by unfold ax_T; decide +kernel
abbrev K_roll_c : ByteArray := prog_5_method_23_code
def K_roll_y : MethodName := ⟨"NumberFunctions$Machine", "roll", "()I"⟩
def K_roll_t : List (Nat × Instr × Nat) := [(0, .aload_n 0, 1), (1, .iconst 2, 1), (2, .invokevirtual 138, 3), (5, .istore_n 1, 1), (6, .iload_n 1, 1), (7, .iconst (-1), 1), (8, .if_icmp .eq 5, 3), (11, .iload_n 1, 1), (12, .ireturn, 1), (13, .aload_n 0, 1), (14, .getfield 9, 3), (17, .aload_n 0, 1), (18, .getfield 19, 3), (21, .iconst 2, 1), (22, .isub, 1), (23, .iaload, 1), (24, .ldc 141, 2), (26, .idiv, 1), (27, .istore_n 2, 1), (28, .aload_n 0, 1), (29, .getfield 9, 3), (32, .aload_n 0, 1), (33, .getfield 19, 3), (36, .iconst 1, 1), (37, .isub, 1), (38, .iaload, 1), (39, .ldc 141, 2), (41, .idiv, 1), (42, .istore_n 3, 1), (43, .aload_n 0, 1), (44, .getfield 19, 3), (47, .iconst 2, 1), (48, .isub, 1), (49, .istore 4, 2), (51, .iload_n 2, 1), (52, .ifCond .ge 6, 3), (55, .bipush 12, 2), (57, .ireturn, 1), (58, .iload_n 2, 1), (59, .iload 4, 2), (61, .if_icmp .le 6, 3), (64, .bipush 9, 2), (66, .ireturn, 1), (67, .aload_n 0, 1), (68, .iload 4, 2), (70, .putfield 19, 3), (73, .iload_n 2, 1), (74, .ifCond .le 16, 3), (77, .aload_n 0, 1), (78, .iload 4, 2), (80, .iload_n 2, 1), (81, .isub, 1), (82, .iload_n 3, 1), (83, .iload_n 2, 1), (84, .invokestatic 186, 3), (87, .invokevirtual 189, 3), (90, .iconst (-1), 1), (91, .ireturn, 1)]
set_option maxRecDepth 100000 in
theorem K_roll_d : ax_T K_roll_c K_roll_t := by unfold ax_T; decide +kernel
abbrev K_turn_c : ByteArray := prog_5_method_24_code
def K_turn_y : MethodName := ⟨"NumberFunctions$Machine", "turn", "(II)V"⟩
def K_turn_t : List (Nat × Instr × Nat) := [(0, .aload_n 0, 1), (1, .iload_n 1, 1), (2, .aload_n 0, 1), (3, .getfield 19, 3), (6, .invokevirtual 170, 3), (9, .aload_n 0, 1), (10, .iload_n 1, 1), (11, .iload_n 1, 1), (12, .iload_n 2, 1), (13, .iadd, 1), (14, .invokevirtual 170, 3), (17, .aload_n 0, 1), (18, .iload_n 1, 1), (19, .iload_n 2, 1), (20, .iadd, 1), (21, .aload_n 0, 1), (22, .getfield 19, 3), (25, .invokevirtual 170, 3), (28, .return_, 1)]
set_option maxRecDepth 100000 in
theorem K_turn_d : ax_T K_turn_c K_turn_t := by unfold ax_T; decide +kernel
abbrev K_reach_c : ByteArray := prog_5_method_21_code
def K_reach_y : MethodName := ⟨"NumberFunctions$Machine", "reach", "(LNumberFunctions$Word;)I"⟩
def K_reach_t : List (Nat × Instr × Nat) := [(0, .aload_n 0, 1), (1, .iconst 1, 1), (2, .invokevirtual 138, 3), (5, .istore_n 2, 1), (6, .iload_n 2, 1), (7, .iconst (-1), 1), (8, .if_icmp .eq 5, 3), (11, .iload_n 2, 1), (12, .ireturn, 1), (13, .aload_n 0, 1), (14, .getfield 9, 3), (17, .aload_n 0, 1), (18, .getfield 19, 3), (21, .iconst 1, 1), (22, .isub, 1), (23, .iaload, 1), (24, .ldc 141, 2), (26, .idiv, 1), (27, .istore_n 3, 1), (28, .aload_n 0, 1), (29, .getfield 19, 3), (32, .iconst 1, 1), (33, .isub, 1), (34, .istore 4, 2), (36, .iload_n 3, 1), (37, .ifCond .ge 6, 3), (40, .bipush 12, 2), (42, .ireturn, 1), (43, .aload_n 1, 1), (44, .getstatic 174, 3), (47, .if_acmp .ne 42, 3), (50, .iload 4, 2), (52, .iconst 1, 1), (53, .isub, 1), (54, .iload_n 3, 1), (55, .isub, 1), (56, .istore 5, 2), (58, .iload 5, 2), (60, .ifCond .ge 8, 3), (63, .bipush 9, 2), (65, .goto 23, 3), (68, .aload_n 0, 1), (69, .iconst 1, 1), (70, .aload_n 0, 1), (71, .getfield 9, 3), (74, .iload 5, 2), (76, .iaload, 1), (77, .i2l, 1), (78, .aload_n 0, 1), (79, .getfield 15, 3), (82, .iload 5, 2), (84, .baload, 1), (85, .invokevirtual 80, 3), (88, .ireturn, 1), (89, .iload_n 3, 1), (90, .iload 4, 2), (92, .if_icmp .le 8, 3), (95, .bipush 9, 2), (97, .goto 10, 3), (100, .aload_n 0, 1), (101, .iload_n 3, 1), (102, .iload 4, 2), (104, .invokevirtual 177, 3), (107, .ireturn, 1)]
set_option maxRecDepth 100000 in
theorem K_reach_d : ax_T K_reach_c K_reach_t := by unfold ax_T; decide +kernel
abbrev K_copyUpper_c : ByteArray := prog_5_method_22_code
def K_copyUpper_y : MethodName := ⟨"NumberFunctions$Machine", "copyUpper", "(II)I"⟩
def K_copyUpper_t : List (Nat × Instr × Nat) := [(0, .iload_n 2, 1), (1, .iload_n 1, 1), (2, .iadd, 1), (3, .bipush 60, 2), (5, .if_icmp .le 6, 3), (8, .bipush 8, 2), (10, .ireturn, 1), (11, .aload_n 0, 1), (12, .getfield 9, 3), (15, .iload_n 2, 1), (16, .iload_n 1, 1), (17, .isub, 1), (18, .aload_n 0, 1), (19, .getfield 9, 3), (22, .iload_n 2, 1), (23, .iload_n 1, 1), (24, .invokestatic 180, 3), (27, .aload_n 0, 1), (28, .getfield 15, 3), (31, .iload_n 2, 1), (32, .iload_n 1, 1), (33, .isub, 1), (34, .aload_n 0, 1), (35, .getfield 15, 3), (38, .iload_n 2, 1), (39, .iload_n 1, 1), (40, .invokestatic 180, 3), (43, .aload_n 0, 1), (44, .iload_n 2, 1), (45, .iload_n 1, 1), (46, .iadd, 1), (47, .putfield 19, 3), (50, .iconst (-1), 1), (51, .ireturn, 1)]
set_option maxRecDepth 100000 in
theorem K_copyUpper_d : ax_T K_copyUpper_c K_copyUpper_t := by unfold ax_T; decide +kernel
abbrev K_choice_c : ByteArray := prog_5_method_26_code
def K_choice_y : MethodName := ⟨"NumberFunctions$Machine", "choice", "()I"⟩
def K_choice_t : List (Nat × Instr × Nat) := [(0, .aload_n 0, 1), (1, .getfield 15, 3), (4, .aload_n 0, 1), (5, .getfield 19, 3), (8, .iconst 1, 1), (9, .isub, 1), (10, .baload, 1), (11, .ifCond .ne 6, 3), (14, .bipush 10, 2), (16, .ireturn, 1), (17, .aload_n 0, 1), (18, .dup, 1), (19, .getfield 19, 3), (22, .iconst 1, 1), (23, .isub, 1), (24, .putfield 19, 3), (27, .aload_n 0, 1), (28, .aload_n 0, 1), (29, .getfield 9, 3), (32, .aload_n 0, 1), (33, .getfield 19, 3), (36, .iaload, 1), (37, .ifCond .eq 7, 3), (40, .iconst 1, 1), (41, .goto 4, 3), (44, .iconst 0, 1), (45, .putfield 192, 3), (48, .iconst (-1), 1), (49, .ireturn, 1)]
set_option maxRecDepth 100000 in
theorem K_choice_d : ax_T K_choice_c K_choice_t := by unfold ax_T; decide +kernel
abbrev K_faultAtEnd_c : ByteArray := prog_5_method_4_code
def K_faultAtEnd_y : MethodName := ⟨"NumberFunctions$Machine", "faultAtEnd", "(I)I"⟩
def K_faultAtEnd_t : List (Nat × Instr × Nat) := [(0, .aload_n 0, 1), (1, .getfield 19, 3), (4, .iload_n 1, 1), (5, .if_icmp .eq 6, 3), (8, .bipush 14, 2), (10, .ireturn, 1), (11, .iconst 0, 1), (12, .istore_n 2, 1), (13, .iload_n 2, 1), (14, .aload_n 0, 1), (15, .getfield 19, 3), (18, .if_icmp .ge 21, 3), (21, .aload_n 0, 1), (22, .getfield 15, 3), (25, .iload_n 2, 1), (26, .baload, 1), (27, .ifCond .eq 6, 3), (30, .bipush 10, 2), (32, .ireturn, 1), (33, .iinc 2 1, 3), (36, .goto (-23), 3), (39, .iconst (-1), 1), (40, .ireturn, 1)]
set_option maxRecDepth 100000 in
theorem K_faultAtEnd_d : ax_T K_faultAtEnd_c K_faultAtEnd_t := by unfold ax_T; decide +kernel
end
section
abbrev F_init_c : ByteArray := prog_4_method_1_code
def F_init_y : MethodName := ⟨"NumberFunctions$Function", "<init>", "(II[I)V"⟩
def F_init_t : List (Nat × Instr × Nat) := [(0, .aload_n 0, 1), (1, .invokespecial 1, 3), (4, .aload_n 0, 1), (5, .iload_n 1, 1), (6, .putfield 7, 3), (9, .aload_n 0, 1), (10, .iload_n 2, 1), (11, .putfield 13, 3), (14, .aload_n 0, 1), (15, .aload_n 3, 1), (16, .putfield 16, 3), (19, .return_, 1)]
set_option maxRecDepth 100000 in
theorem F_init_d : ax_T F_init_c F_init_t := by unfold ax_T; decide +kernel
abbrev F_withinPair_c : ByteArray := prog_4_method_3_code
def F_withinPair_y : MethodName := ⟨"NumberFunctions$Function", "withinPair", "(II)I"⟩
def F_withinPair_t : List (Nat × Instr × Nat) := [(0, .iload_n 1, 1), (1, .i2l, 1), (2, .aload_n 0, 1), (3, .getfield 16, 3), (6, .iload_n 2, 1), (7, .iaload, 1), (8, .i2l, 1), (9, .aload_n 0, 1), (10, .getfield 16, 3), (13, .iload_n 2, 1), (14, .iconst 1, 1), (15, .iadd, 1), (16, .iaload, 1), (17, .i2l, 1), (18, .invokestatic 20, 3), (21, .l2i, 1), (22, .ireturn, 1)]
set_option maxRecDepth 100000 in
theorem F_withinPair_d : ax_T F_withinPair_c F_withinPair_t := by unfold ax_T; decide +kernel
abbrev S_bytesNeeded_c : ByteArray := prog_10_method_2_code
def S_bytesNeeded_y : MethodName := ⟨"NumberFunctions$Samples", "bytesNeeded", "(II[I)I"⟩
def S_bytesNeeded_t : List (Nat × Instr × Nat) := [(0, .iload_n 1, 1), (1, .aload_n 2, 1), (2, .iconst 5, 1), (3, .iload_n 0, 1), (4, .imul, 1), (5, .iaload, 1), (6, .imul, 1), (7, .istore_n 3, 1), (8, .iconst 0, 1), (9, .istore 4, 2), (11, .iload 4, 2), (13, .iload_n 0, 1), (14, .if_icmp .ge 20, 3), (17, .iload_n 3, 1), (18, .aload_n 2, 1), (19, .iconst 5, 1), (20, .iload 4, 2), (22, .imul, 1), (23, .iconst 2, 1), (24, .iadd, 1), (25, .iaload, 1), (26, .imul, 1), (27, .istore_n 3, 1), (28, .iinc 4 1, 3), (31, .goto (-20), 3), (34, .iload_n 3, 1), (35, .bipush 7, 2), (37, .iadd, 1), (38, .bipush 8, 2), (40, .idiv, 1), (41, .ireturn, 1)]
set_option maxRecDepth 100000 in
theorem S_bytesNeeded_d : ax_T S_bytesNeeded_c S_bytesNeeded_t := by unfold ax_T; decide +kernel
abbrev S_init_c : ByteArray := prog_10_method_1_code
def S_init_y : MethodName := ⟨"NumberFunctions$Samples", "<init>", "(II[I[B)V"⟩
def S_init_t : List (Nat × Instr × Nat) := [(0, .aload_n 0, 1), (1, .iload_n 1, 1), (2, .iload_n 2, 1), (3, .aload_n 3, 1), (4, .invokespecial 3, 3), (7, .aload_n 0, 1), (8, .iconst 3, 1), (9, .newarray .int, 2), (11, .putfield 9, 3), (14, .aload_n 0, 1), (15, .iconst 3, 1), (16, .newarray .int, 2), (18, .putfield 15, 3), (21, .aload_n 0, 1), (22, .bipush 8, 2), (24, .newarray .long, 2), (26, .putfield 18, 3), (29, .aload_n 0, 1), (30, .aload 4, 2), (32, .putfield 22, 3), (35, .aload_n 0, 1), (36, .aload_n 3, 1), (37, .iconst 5, 1), (38, .iload_n 1, 1), (39, .imul, 1), (40, .iaload, 1), (41, .putfield 26, 3), (44, .return_, 1)]
set_option maxRecDepth 100000 in
theorem S_init_d : ax_T S_init_c S_init_t := by unfold ax_T; decide +kernel
abbrev S_evaluate_c : ByteArray := prog_10_method_3_code
def S_evaluate_y : MethodName := ⟨"NumberFunctions$Samples", "evaluate", "([I[ILNumberFunctions$Fault;)V"⟩
def S_evaluate_t : List (Nat × Instr × Nat) := [(0, .iconst 0, 1), (1, .istore 4, 2), (3, .iload 4, 2), (5, .aload_n 0, 1), (6, .getfield 30, 3), (9, .if_icmp .ge 19, 3), (12, .aload_n 0, 1), (13, .iload 4, 2), (15, .aload_n 1, 1), (16, .iload 4, 2), (18, .iaload, 1), (19, .invokevirtual 33, 3), (22, .iinc 4 1, 3), (25, .goto (-22), 3), (28, .lconst 1, 1), (29, .aload_n 0, 1), (30, .getfield 26, 3), (33, .lshl, 1), (34, .lconst 1, 1), (35, .lsub, 1), (36, .ldc2_w 37, 3), (39, .lmul, 1), (40, .lstore 4, 2), (42, .iconst 0, 1), (43, .istore 6, 2), (45, .iload 6, 2), (47, .aload_n 0, 1), (48, .getfield 39, 3), (51, .if_icmp .ge 70, 3), (54, .iconst 5, 1), (55, .aload_n 0, 1), (56, .getfield 30, 3), (59, .imul, 1), (60, .iconst 1, 1), (61, .iadd, 1), (62, .iconst 4, 1), (63, .iload 6, 2), (65, .imul, 1), (66, .iadd, 1), (67, .istore 7, 2), (69, .aload_n 0, 1), (70, .iload 6, 2), (72, .invokevirtual 42, 3), (75, .lconst 0, 1), (76, .lload 4, 2), (78, .aload_n 0, 1), (79, .getfield 46, 3), (82, .iload 7, 2), (84, .iconst 2, 1), (85, .iadd, 1), (86, .iaload, 1), (87, .i2l, 1), (88, .aload_n 0, 1), (89, .getfield 46, 3), (92, .iload 7, 2), (94, .iconst 3, 1), (95, .iadd, 1), (96, .iaload, 1), (97, .i2l, 1), (98, .invokestatic 49, 3), (101, .istore 8, 2), (103, .aload_n 2, 1), (104, .iload 6, 2), (106, .aload_n 0, 1), (107, .iload 8, 2), (109, .iload 7, 2), (111, .invokevirtual 55, 3), (114, .iastore, 1), (115, .iinc 6 1, 3), (118, .goto (-73), 3), (121, .return_, 1)]
set_option maxRecDepth 100000 in
theorem S_evaluate_d : ax_T S_evaluate_c S_evaluate_t := by unfold ax_T; decide +kernel
abbrev S_locate_c : ByteArray := prog_10_method_4_code
def S_locate_y : MethodName := ⟨"NumberFunctions$Samples", "locate", "(II)V"⟩
def S_locate_t : List (Nat × Instr × Nat) := [(0, .iconst 5, 1), (1, .iload_n 1, 1), (2, .imul, 1), (3, .istore_n 3, 1), (4, .aload_n 0, 1), (5, .iload_n 2, 1), (6, .iload_n 3, 1), (7, .invokevirtual 55, 3), (10, .istore 4, 2), (12, .iload 4, 2), (14, .i2l, 1), (15, .aload_n 0, 1), (16, .getfield 46, 3), (19, .iload_n 3, 1), (20, .iaload, 1), (21, .i2l, 1), (22, .aload_n 0, 1), (23, .getfield 46, 3), (26, .iload_n 3, 1), (27, .iconst 1, 1), (28, .iadd, 1), (29, .iaload, 1), (30, .i2l, 1), (31, .aload_n 0, 1), (32, .getfield 46, 3), (35, .iload_n 3, 1), (36, .iconst 3, 1), (37, .iadd, 1), (38, .iaload, 1), (39, .i2l, 1), (40, .aload_n 0, 1), (41, .getfield 46, 3), (44, .iload_n 3, 1), (45, .iconst 4, 1), (46, .iadd, 1), (47, .iaload, 1), (48, .i2l, 1), (49, .invokestatic 49, 3), (52, .istore 5, 2), (54, .aload_n 0, 1), (55, .getfield 46, 3), (58, .iload_n 3, 1), (59, .iconst 2, 1), (60, .iadd, 1), (61, .iaload, 1), (62, .iconst 1, 1), (63, .isub, 1), (64, .istore 6, 2), (66, .iload 5, 2), (68, .i2l, 1), (69, .lconst 0, 1), (70, .iload 6, 2), (72, .i2l, 1), (73, .ldc2_w 37, 3), (76, .lmul, 1), (77, .invokestatic 59, 3), (80, .l2i, 1), (81, .istore 7, 2), (83, .aload_n 0, 1), (84, .getfield 9, 3), (87, .iload_n 1, 1), (88, .iload 7, 2), (90, .ldc 63, 2), (92, .idiv, 1), (93, .iastore, 1), (94, .aload_n 0, 1), (95, .getfield 15, 3), (98, .iload_n 1, 1), (99, .iload 7, 2), (101, .ldc 63, 2), (103, .irem, 1), (104, .iastore, 1), (105, .return_, 1)]
set_option maxRecDepth 100000 in
theorem S_locate_d : ax_T S_locate_c S_locate_t := by unfold ax_T; decide +kernel
abbrev S_between_c : ByteArray := prog_10_method_5_code
def S_between_y : MethodName := ⟨"NumberFunctions$Samples", "between", "(I)J"⟩
def S_between_t : List (Nat × Instr × Nat) := [(0, .iconst 1, 1), (1, .aload_n 0, 1), (2, .getfield 30, 3), (5, .ishl, 1), (6, .istore_n 2, 1), (7, .iconst 0, 1), (8, .istore_n 3, 1), (9, .iload_n 3, 1), (10, .iload_n 2, 1), (11, .if_icmp .ge 35, 3), (14, .aload_n 0, 1), (15, .getfield 18, 3), (18, .iload_n 3, 1), (19, .aload_n 0, 1), (20, .aload_n 0, 1), (21, .iload_n 3, 1), (22, .invokevirtual 64, 3), (25, .aload_n 0, 1), (26, .getfield 39, 3), (29, .imul, 1), (30, .iload_n 1, 1), (31, .iadd, 1), (32, .invokevirtual 68, 3), (35, .ldc2_w 37, 3), (38, .lmul, 1), (39, .lastore, 1), (40, .iinc 3 1, 3), (43, .goto (-34), 3), (46, .iconst 0, 1), (47, .istore_n 3, 1), (48, .iload_n 3, 1), (49, .aload_n 0, 1), (50, .getfield 30, 3), (53, .if_icmp .ge 78, 3), (56, .iload_n 2, 1), (57, .iconst 2, 1), (58, .idiv, 1), (59, .istore_n 2, 1), (60, .iconst 0, 1), (61, .istore 4, 2), (63, .iload 4, 2), (65, .iload_n 2, 1), (66, .if_icmp .ge 59, 3), (69, .aload_n 0, 1), (70, .getfield 18, 3), (73, .iconst 2, 1), (74, .iload 4, 2), (76, .imul, 1), (77, .laload, 1), (78, .lstore 5, 2), (80, .aload_n 0, 1), (81, .getfield 18, 3), (84, .iconst 2, 1), (85, .iload 4, 2), (87, .imul, 1), (88, .iconst 1, 1), (89, .iadd, 1), (90, .laload, 1), (91, .lstore 7, 2), (93, .aload_n 0, 1), (94, .getfield 18, 3), (97, .iload 4, 2), (99, .lload 5, 2), (101, .lload 7, 2), (103, .lload 5, 2), (105, .lsub, 1), (106, .aload_n 0, 1), (107, .getfield 15, 3), (110, .iload_n 3, 1), (111, .iaload, 1), (112, .i2l, 1), (113, .lmul, 1), (114, .bipush 16, 2), (116, .lshr, 1), (117, .ladd, 1), (118, .lastore, 1), (119, .iinc 4 1, 3), (122, .goto (-59), 3), (125, .iinc 3 1, 3), (128, .goto (-80), 3), (131, .aload_n 0, 1), (132, .getfield 18, 3), (135, .iconst 0, 1), (136, .laload, 1), (137, .lreturn, 1)]
set_option maxRecDepth 100000 in
theorem S_between_d : ax_T S_between_c S_between_t := by unfold ax_T; decide +kernel
abbrev S_placeOf_c : ByteArray := prog_10_method_6_code
def S_placeOf_y : MethodName := ⟨"NumberFunctions$Samples", "placeOf", "(I)I"⟩
def S_placeOf_t : List (Nat × Instr × Nat) := [(0, .iconst 0, 1), (1, .istore_n 2, 1), (2, .aload_n 0, 1), (3, .getfield 30, 3), (6, .iconst 1, 1), (7, .isub, 1), (8, .istore_n 3, 1), (9, .iload_n 3, 1), (10, .ifCond .lt 50, 3), (13, .aload_n 0, 1), (14, .getfield 46, 3), (17, .iconst 5, 1), (18, .iload_n 3, 1), (19, .imul, 1), (20, .iconst 2, 1), (21, .iadd, 1), (22, .iaload, 1), (23, .istore 4, 2), (25, .aload_n 0, 1), (26, .getfield 9, 3), (29, .iload_n 3, 1), (30, .iaload, 1), (31, .iload_n 1, 1), (32, .iload_n 3, 1), (33, .ishr, 1), (34, .iconst 1, 1), (35, .iand, 1), (36, .iadd, 1), (37, .istore 5, 2), (39, .iload_n 2, 1), (40, .iload 4, 2), (42, .imul, 1), (43, .iload 5, 2), (45, .iload 4, 2), (47, .iconst 1, 1), (48, .isub, 1), (49, .invokestatic 71, 3), (52, .iadd, 1), (53, .istore_n 2, 1), (54, .iinc 3 (-1), 3), (57, .goto (-48), 3), (60, .iload_n 2, 1), (61, .ireturn, 1)]
set_option maxRecDepth 100000 in
theorem S_placeOf_d : ax_T S_placeOf_c S_placeOf_t := by unfold ax_T; decide +kernel
abbrev S_sample_c : ByteArray := prog_10_method_7_code
def S_sample_y : MethodName := ⟨"NumberFunctions$Samples", "sample", "(I)J"⟩
def S_sample_t : List (Nat × Instr × Nat) := [(0, .lconst 0, 1), (1, .lstore_n 2, 1), (2, .iload_n 1, 1), (3, .aload_n 0, 1), (4, .getfield 26, 3), (7, .imul, 1), (8, .istore 4, 2), (10, .iconst 0, 1), (11, .istore 5, 2), (13, .iload 5, 2), (15, .aload_n 0, 1), (16, .getfield 26, 3), (19, .if_icmp .ge 26, 3), (22, .lload_n 2, 1), (23, .ldc2_w 76, 3), (26, .lmul, 1), (27, .aload_n 0, 1), (28, .iload 4, 2), (30, .iload 5, 2), (32, .iadd, 1), (33, .invokevirtual 78, 3), (36, .i2l, 1), (37, .ladd, 1), (38, .lstore_n 2, 1), (39, .iinc 5 1, 3), (42, .goto (-29), 3), (45, .lload_n 2, 1), (46, .lreturn, 1)]
set_option maxRecDepth 100000 in
theorem S_sample_d : ax_T S_sample_c S_sample_t := by unfold ax_T; decide +kernel
abbrev S_bitAt_c : ByteArray := prog_10_method_8_code
def S_bitAt_y : MethodName := ⟨"NumberFunctions$Samples", "bitAt", "(I)I"⟩
def S_bitAt_t : List (Nat × Instr × Nat) := [(0, .iload_n 1, 1), (1, .ifCond .lt 15, 3), (4, .iload_n 1, 1), (5, .bipush 8, 2), (7, .idiv, 1), (8, .aload_n 0, 1), (9, .getfield 22, 3), (12, .arraylength, 1), (13, .if_icmp .lt 5, 3), (16, .iconst 0, 1), (17, .ireturn, 1), (18, .aload_n 0, 1), (19, .getfield 22, 3), (22, .iload_n 1, 1), (23, .bipush 8, 2), (25, .idiv, 1), (26, .baload, 1), (27, .bipush 7, 2), (29, .iload_n 1, 1), (30, .bipush 8, 2), (32, .irem, 1), (33, .isub, 1), (34, .ishr, 1), (35, .iconst 1, 1), (36, .iand, 1), (37, .ireturn, 1)]
set_option maxRecDepth 100000 in
theorem S_bitAt_d : ax_T S_bitAt_c S_bitAt_t := by unfold ax_T; decide +kernel
abbrev P_init_c : ByteArray := prog_7_method_1_code
def P_init_y : MethodName := ⟨"NumberFunctions$Powers", "<init>", "(I[I)V"⟩
def P_init_t : List (Nat × Instr × Nat) := [(0, .aload_n 0, 1), (1, .iconst 1, 1), (2, .iload_n 1, 1), (3, .aload_n 2, 1), (4, .invokespecial 3, 3), (7, .return_, 1)]
set_option maxRecDepth 100000 in
theorem P_init_d : ax_T P_init_c P_init_t := by unfold ax_T; decide +kernel
abbrev P_evaluate_c : ByteArray := prog_7_method_2_code
def P_evaluate_y : MethodName := ⟨"NumberFunctions$Powers", "evaluate", "([I[ILNumberFunctions$Fault;)V"⟩
def P_evaluate_t : List (Nat × Instr × Nat) := [(0, .aload_n 0, 1), (1, .aload_n 1, 1), (2, .iconst 0, 1), (3, .iaload, 1), (4, .iconst 0, 1), (5, .invokevirtual 9, 3), (8, .istore 4, 2), (10, .ldc 15, 2), (12, .istore 5, 2), (14, .iconst 0, 1), (15, .istore 6, 2), (17, .iload 6, 2), (19, .aload_n 0, 1), (20, .getfield 16, 3), (23, .iconst 2, 1), (24, .iaload, 1), (25, .if_icmp .ge 18, 3), (28, .iload 5, 2), (30, .iload 4, 2), (32, .invokestatic 20, 3), (35, .istore 5, 2), (37, .iinc 6 1, 3), (40, .goto (-23), 3), (43, .iconst 0, 1), (44, .istore 6, 2), (46, .iload 6, 2), (48, .aload_n 0, 1), (49, .getfield 25, 3), (52, .if_icmp .ge 63, 3), (55, .aload_n 0, 1), (56, .getfield 16, 3), (59, .iconst 3, 1), (60, .iconst 2, 1), (61, .iload 6, 2), (63, .imul, 1), (64, .iadd, 1), (65, .iaload, 1), (66, .i2l, 1), (67, .lstore 7, 2), (69, .aload_n 0, 1), (70, .getfield 16, 3), (73, .iconst 3, 1), (74, .iconst 2, 1), (75, .iload 6, 2), (77, .imul, 1), (78, .iadd, 1), (79, .iconst 1, 1), (80, .iadd, 1), (81, .iaload, 1), (82, .i2l, 1), (83, .lstore 9, 2), (85, .aload_n 2, 1), (86, .iload 6, 2), (88, .lload 7, 2), (90, .iload 5, 2), (92, .lload 9, 2), (94, .lload 7, 2), (96, .lsub, 1), (97, .invokestatic 29, 3), (100, .invokestatic 20, 3), (103, .i2l, 1), (104, .ladd, 1), (105, .invokestatic 29, 3), (108, .iastore, 1), (109, .iinc 6 1, 3), (112, .goto (-66), 3), (115, .return_, 1)]
set_option maxRecDepth 100000 in
theorem P_evaluate_d : ax_T P_evaluate_c P_evaluate_t := by unfold ax_T; decide +kernel
abbrev Z_init_c : ByteArray := prog_11_method_1_code
def Z_init_y : MethodName := ⟨"NumberFunctions$Stitched", "<init>", "(I[I[LNumberFunctions$Function;)V"⟩
def Z_init_t : List (Nat × Instr × Nat) := [(0, .aload_n 0, 1), (1, .iconst 1, 1), (2, .iload_n 1, 1), (3, .aload_n 2, 1), (4, .invokespecial 3, 3), (7, .aload_n 0, 1), (8, .aload_n 2, 1), (9, .iconst 2, 1), (10, .iaload, 1), (11, .anewarray 4, 3), (14, .putfield 9, 3), (17, .iconst 0, 1), (18, .istore 4, 2), (20, .iload 4, 2), (22, .aload_n 0, 1), (23, .getfield 9, 3), (26, .arraylength, 1), (27, .if_icmp .ge 24, 3), (30, .aload_n 0, 1), (31, .getfield 9, 3), (34, .iload 4, 2), (36, .aload_n 3, 1), (37, .aload_n 2, 1), (38, .iconst 3, 1), (39, .iload 4, 2), (41, .iadd, 1), (42, .iaload, 1), (43, .aaload, 1), (44, .aastore, 1), (45, .iinc 4 1, 3), (48, .goto (-28), 3), (51, .return_, 1)]
set_option maxRecDepth 100000 in
theorem Z_init_d : ax_T Z_init_c Z_init_t := by unfold ax_T; decide +kernel
abbrev Z_evaluate_c : ByteArray := prog_11_method_2_code
def Z_evaluate_y : MethodName := ⟨"NumberFunctions$Stitched", "evaluate", "([I[ILNumberFunctions$Fault;)V"⟩
def Z_evaluate_t : List (Nat × Instr × Nat) := [(0, .aload_n 0, 1), (1, .aload_n 1, 1), (2, .iconst 0, 1), (3, .iaload, 1), (4, .iconst 0, 1), (5, .invokevirtual 15, 3), (8, .istore 4, 2), (10, .iconst 3, 1), (11, .aload_n 0, 1), (12, .getfield 9, 3), (15, .arraylength, 1), (16, .iadd, 1), (17, .istore 5, 2), (19, .aload_n 0, 1), (20, .getfield 9, 3), (23, .arraylength, 1), (24, .iconst 1, 1), (25, .isub, 1), (26, .istore 6, 2), (28, .iconst 0, 1), (29, .istore 7, 2), (31, .iload 7, 2), (33, .iload 6, 2), (35, .if_icmp .ge 24, 3), (38, .aload_n 0, 1), (39, .getfield 19, 3), (42, .iload 5, 2), (44, .iload 7, 2), (46, .iadd, 1), (47, .iaload, 1), (48, .iload 4, 2), (50, .if_icmp .gt 9, 3), (53, .iinc 7 1, 3), (56, .goto (-25), 3), (59, .iload 7, 2), (61, .ifCond .ne 12, 3), (64, .aload_n 0, 1), (65, .getfield 19, 3), (68, .iconst 0, 1), (69, .iaload, 1), (70, .goto 15, 3), (73, .aload_n 0, 1), (74, .getfield 19, 3), (77, .iload 5, 2), (79, .iload 7, 2), (81, .iadd, 1), (82, .iconst 1, 1), (83, .isub, 1), (84, .iaload, 1), (85, .istore 8, 2), (87, .iload 7, 2), (89, .iload 6, 2), (91, .if_icmp .ne 12, 3), (94, .aload_n 0, 1), (95, .getfield 19, 3), (98, .iconst 1, 1), (99, .iaload, 1), (100, .goto 13, 3), (103, .aload_n 0, 1), (104, .getfield 19, 3), (107, .iload 5, 2), (109, .iload 7, 2), (111, .iadd, 1), (112, .iaload, 1), (113, .istore 9, 2), (115, .iload 5, 2), (117, .iload 6, 2), (119, .iadd, 1), (120, .iconst 2, 1), (121, .iload 7, 2), (123, .imul, 1), (124, .iadd, 1), (125, .istore 10, 2), (127, .aload_n 1, 1), (128, .iconst 0, 1), (129, .iload 4, 2), (131, .i2l, 1), (132, .iload 8, 2), (134, .i2l, 1), (135, .iload 9, 2), (137, .i2l, 1), (138, .aload_n 0, 1), (139, .getfield 19, 3), (142, .iload 10, 2), (144, .iaload, 1), (145, .i2l, 1), (146, .aload_n 0, 1), (147, .getfield 19, 3), (150, .iload 10, 2), (152, .iconst 1, 1), (153, .iadd, 1), (154, .iaload, 1), (155, .i2l, 1), (156, .invokestatic 23, 3), (159, .iastore, 1), (160, .aload_n 0, 1), (161, .getfield 9, 3), (164, .iload 7, 2), (166, .aaload, 1), (167, .astore 11, 2), (169, .aload 11, 2), (171, .ifnull 11, 3), (174, .aload 11, 2), (176, .aload_n 1, 1), (177, .aload_n 2, 1), (178, .aload_n 3, 1), (179, .invokevirtual 29, 3), (182, .return_, 1)]
set_option maxRecDepth 100000 in
theorem Z_evaluate_d : ax_T Z_evaluate_c Z_evaluate_t := by unfold ax_T; decide +kernel
abbrev G_init_c : ByteArray := prog_8_method_1_code
def G_init_y : MethodName := ⟨"NumberFunctions$Program", "<init>", "(II[ILNumberFunctions$Reader;LNumberFunctions$Machine;)V"⟩
def G_init_t : List (Nat × Instr × Nat) := [(0, .aload_n 0, 1), (1, .iload_n 1, 1), (2, .iload_n 2, 1), (3, .aload_n 3, 1), (4, .invokespecial 3, 3), (7, .aload_n 0, 1), (8, .aload 5, 2), (10, .putfield 9, 3), (13, .aload_n 0, 1), (14, .aload 4, 2), (16, .getfield 15, 3), (19, .putfield 21, 3), (22, .aload_n 0, 1), (23, .aload_n 0, 1), (24, .getfield 21, 3), (27, .anewarray 22, 3), (30, .putfield 24, 3), (33, .aload 4, 2), (35, .getfield 28, 3), (38, .iconst 0, 1), (39, .aload_n 0, 1), (40, .getfield 24, 3), (43, .iconst 0, 1), (44, .aload_n 0, 1), (45, .getfield 21, 3), (48, .invokestatic 29, 3), (51, .aload_n 0, 1), (52, .aload 4, 2), (54, .getfield 35, 3), (57, .aload_n 0, 1), (58, .getfield 21, 3), (61, .invokestatic 39, 3), (64, .putfield 45, 3), (67, .aload_n 0, 1), (68, .aload 4, 2), (70, .getfield 46, 3), (73, .aload_n 0, 1), (74, .getfield 21, 3), (77, .invokestatic 39, 3), (80, .putfield 49, 3), (83, .aload_n 0, 1), (84, .aload 4, 2), (86, .getfield 50, 3), (89, .aload_n 0, 1), (90, .getfield 21, 3), (93, .invokestatic 39, 3), (96, .putfield 53, 3), (99, .return_, 1)]
set_option maxRecDepth 100000 in
theorem G_init_d : ax_T G_init_c G_init_t := by unfold ax_T; decide +kernel
abbrev G_evaluate_c : ByteArray := prog_8_method_2_code
def G_evaluate_y : MethodName := ⟨"NumberFunctions$Program", "evaluate", "([I[ILNumberFunctions$Fault;)V"⟩
def G_evaluate_t : List (Nat × Instr × Nat) := [(0, .aload_n 0, 1), (1, .getfield 9, 3), (4, .iconst 0, 1), (5, .putfield 54, 3), (8, .iconst 0, 1), (9, .istore 4, 2), (11, .iload 4, 2), (13, .aload_n 0, 1), (14, .getfield 59, 3), (17, .if_icmp .ge 32, 3), (20, .aload_n 0, 1), (21, .getfield 9, 3), (24, .iconst 0, 1), (25, .aload_n 0, 1), (26, .aload_n 1, 1), (27, .iload 4, 2), (29, .iaload, 1), (30, .iconst 2, 1), (31, .iload 4, 2), (33, .imul, 1), (34, .invokevirtual 62, 3), (37, .i2l, 1), (38, .iconst 0, 1), (39, .invokevirtual 66, 3), (42, .pop, 1), (43, .iinc 4 1, 3), (46, .goto (-35), 3), (49, .iconst 0, 1), (50, .istore 4, 2), (52, .iconst 0, 1), (53, .istore 5, 2), (55, .iload 5, 2), (57, .aload_n 0, 1), (58, .getfield 21, 3), (61, .if_icmp .ge 119, 3), (64, .iload 4, 2), (66, .aload_n 0, 1), (67, .getfield 21, 3), (70, .if_icmp .ge 110, 3), (73, .aload_n 0, 1), (74, .getfield 24, 3), (77, .iload 4, 2), (79, .aaload, 1), (80, .astore 6, 2), (82, .aload 6, 2), (84, .ifnonnull 6, 3), (87, .goto 93, 3), (90, .aload_n 0, 1), (91, .getfield 9, 3), (94, .aload 6, 2), (96, .aload_n 0, 1), (97, .getfield 45, 3), (100, .iload 4, 2), (102, .iaload, 1), (103, .invokevirtual 70, 3), (106, .istore 7, 2), (108, .iload 7, 2), (110, .iconst (-1), 1), (111, .if_icmp .eq 12, 3), (114, .aload_n 3, 1), (115, .iload 7, 2), (117, .iload 4, 2), (119, .invokevirtual 74, 3), (122, .return_, 1), (123, .aload 6, 2), (125, .getfield 80, 3), (128, .bipush 9, 2), (130, .if_icmp .ne 17, 3), (133, .aload_n 0, 1), (134, .getfield 9, 3), (137, .getfield 83, 3), (140, .ifCond .ne 7, 3), (143, .iconst 1, 1), (144, .goto 4, 3), (147, .iconst 0, 1), (148, .istore 8, 2), (150, .iload 8, 2), (152, .ifCond .eq 13, 3), (155, .aload_n 0, 1), (156, .getfield 53, 3), (159, .iload 4, 2), (161, .iaload, 1), (162, .goto 10, 3), (165, .aload_n 0, 1), (166, .getfield 49, 3), (169, .iload 4, 2), (171, .iaload, 1), (172, .istore 4, 2), (174, .iinc 5 1, 3), (177, .goto (-122), 3), (180, .aload_n 0, 1), (181, .aload_n 2, 1), (182, .aload_n 3, 1), (183, .invokevirtual 87, 3), (186, .return_, 1)]
set_option maxRecDepth 100000 in
theorem G_evaluate_d : ax_T G_evaluate_c G_evaluate_t := by unfold ax_T; decide +kernel
abbrev G_takeResults_c : ByteArray := prog_8_method_3_code
def G_takeResults_y : MethodName := ⟨"NumberFunctions$Program", "takeResults", "([ILNumberFunctions$Fault;)V"⟩
def G_takeResults_t : List (Nat × Instr × Nat) := [(0, .aload_n 0, 1), (1, .getfield 9, 3), (4, .aload_n 0, 1), (5, .getfield 91, 3), (8, .invokevirtual 94, 3), (11, .istore_n 3, 1), (12, .iload_n 3, 1), (13, .iconst (-1), 1), (14, .if_icmp .eq 13, 3), (17, .aload_n 2, 1), (18, .iload_n 3, 1), (19, .aload_n 0, 1), (20, .getfield 21, 3), (23, .invokevirtual 74, 3), (26, .return_, 1), (27, .iconst 0, 1), (28, .istore 4, 2), (30, .iload 4, 2), (32, .aload_n 0, 1), (33, .getfield 91, 3), (36, .if_icmp .ge 36, 3), (39, .aload_n 1, 1), (40, .iload 4, 2), (42, .aload_n 0, 1), (43, .aload_n 0, 1), (44, .getfield 9, 3), (47, .getfield 98, 3), (50, .iload 4, 2), (52, .iaload, 1), (53, .iconst 2, 1), (54, .aload_n 0, 1), (55, .getfield 59, 3), (58, .iload 4, 2), (60, .iadd, 1), (61, .imul, 1), (62, .invokevirtual 62, 3), (65, .iastore, 1), (66, .iinc 4 1, 3), (69, .goto (-39), 3), (72, .return_, 1)]
set_option maxRecDepth 100000 in
theorem G_takeResults_d : ax_T G_takeResults_c G_takeResults_t := by unfold ax_T; decide +kernel
end
section
abbrev JObject_init_c : ByteArray := object_method_1_code
def JObject_init_y : MethodName := ⟨"java/lang/Object", "<init>", "()V"⟩
def JObject_init_t : List (Nat × Instr × Nat) := [(0, .return_, 1)]
set_option maxRecDepth 100000 in
theorem JObject_init_d : ax_T JObject_init_c JObject_init_t := by unfold ax_T; decide +kernel
abbrev JThrowable_init1_c : ByteArray := prog_28_method_1_code
def JThrowable_init1_y : MethodName := ⟨"java/lang/Throwable", "<init>", "()V"⟩
def JThrowable_init1_t : List (Nat × Instr × Nat) := [(0, .aload_n 0, 1), (1, .invokespecial 1, 3), (4, .aload_n 0, 1), (5, .aload_n 0, 1), (6, .putfield 7, 3), (9, .aload_n 0, 1), (10, .getstatic 13, 3), (13, .putfield 17, 3), (16, .aload_n 0, 1), (17, .getstatic 20, 3), (20, .putfield 24, 3), (23, .aload_n 0, 1), (24, .invokevirtual 27, 3), (27, .pop, 1), (28, .return_, 1)]
set_option maxRecDepth 100000 in
theorem JThrowable_init1_d : ax_T JThrowable_init1_c JThrowable_init1_t := by unfold ax_T; decide +kernel
abbrev JThrowable_fillInStackTrace_c : ByteArray := prog_28_method_18_code
def JThrowable_fillInStackTrace_y : MethodName := ⟨"java/lang/Throwable", "fillInStackTrace", "()Ljava/lang/Throwable;"⟩
def JThrowable_fillInStackTrace_t : List (Nat × Instr × Nat) := [(0, .aload_n 0, 1), (1, .getfield 17, 3), (4, .ifnonnull 10, 3), (7, .aload_n 0, 1), (8, .getfield 198, 3), (11, .ifnull 16, 3), (14, .aload_n 0, 1), (15, .iconst 0, 1), (16, .invokevirtual 202, 3), (19, .pop, 1), (20, .aload_n 0, 1), (21, .getstatic 13, 3), (24, .putfield 17, 3), (27, .aload_n 0, 1), (28, .areturn, 1)]
set_option maxRecDepth 100000 in
theorem JThrowable_fillInStackTrace_d : ax_T JThrowable_fillInStackTrace_c JThrowable_fillInStackTrace_t := by unfold ax_T; decide +kernel
abbrev JThrowable_init2_c : ByteArray := prog_28_method_2_code
def JThrowable_init2_y : MethodName := ⟨"java/lang/Throwable", "<init>", "(Ljava/lang/String;)V"⟩
def JThrowable_init2_t : List (Nat × Instr × Nat) := [(0, .aload_n 0, 1), (1, .invokespecial 1, 3), (4, .aload_n 0, 1), (5, .aload_n 0, 1), (6, .putfield 7, 3), (9, .aload_n 0, 1), (10, .getstatic 13, 3), (13, .putfield 17, 3), (16, .aload_n 0, 1), (17, .getstatic 20, 3), (20, .putfield 24, 3), (23, .aload_n 0, 1), (24, .invokevirtual 27, 3), (27, .pop, 1), (28, .aload_n 0, 1), (29, .aload_n 1, 1), (30, .putfield 31, 3), (33, .return_, 1)]
set_option maxRecDepth 100000 in
theorem JThrowable_init2_d : ax_T JThrowable_init2_c JThrowable_init2_t := by unfold ax_T; decide +kernel
abbrev JIllegalArgumentException_init_c : ByteArray := prog_19_method_2_code
def JIllegalArgumentException_init_y : MethodName := ⟨"java/lang/IllegalArgumentException", "<init>", "(Ljava/lang/String;)V"⟩
def JIllegalArgumentException_init_t : List (Nat × Instr × Nat) := [(0, .aload_n 0, 1), (1, .aload_n 1, 1), (2, .invokespecial 7, 3), (5, .return_, 1)]
set_option maxRecDepth 100000 in
theorem JIllegalArgumentException_init_d : ax_T JIllegalArgumentException_init_c JIllegalArgumentException_init_t := by unfold ax_T; decide +kernel
abbrev JRuntimeException_init_c : ByteArray := prog_23_method_2_code
def JRuntimeException_init_y : MethodName := ⟨"java/lang/RuntimeException", "<init>", "(Ljava/lang/String;)V"⟩
def JRuntimeException_init_t : List (Nat × Instr × Nat) := [(0, .aload_n 0, 1), (1, .aload_n 1, 1), (2, .invokespecial 7, 3), (5, .return_, 1)]
set_option maxRecDepth 100000 in
theorem JRuntimeException_init_d : ax_T JRuntimeException_init_c JRuntimeException_init_t := by unfold ax_T; decide +kernel
abbrev JException_init_c : ByteArray := prog_18_method_2_code
def JException_init_y : MethodName := ⟨"java/lang/Exception", "<init>", "(Ljava/lang/String;)V"⟩
def JException_init_t : List (Nat × Instr × Nat) := [(0, .aload_n 0, 1), (1, .aload_n 1, 1), (2, .invokespecial 7, 3), (5, .return_, 1)]
set_option maxRecDepth 100000 in
theorem JException_init_d : ax_T JException_init_c JException_init_t := by unfold ax_T; decide +kernel
abbrev JMath_max1_c : ByteArray := prog_22_method_65_code
def JMath_max1_y : MethodName := ⟨"java/lang/Math", "max", "(II)I"⟩
def JMath_max1_t : List (Nat × Instr × Nat) := [(0, .iload_n 0, 1), (1, .iload_n 1, 1), (2, .if_icmp .lt 7, 3), (5, .iload_n 0, 1), (6, .goto 4, 3), (9, .iload_n 1, 1), (10, .ireturn, 1)]
set_option maxRecDepth 100000 in
theorem JMath_max1_d : ax_T JMath_max1_c JMath_max1_t := by unfold ax_T; decide +kernel
abbrev JMath_min1_c : ByteArray := prog_22_method_69_code
def JMath_min1_y : MethodName := ⟨"java/lang/Math", "min", "(II)I"⟩
def JMath_min1_t : List (Nat × Instr × Nat) := [(0, .iload_n 0, 1), (1, .iload_n 1, 1), (2, .if_icmp .gt 7, 3), (5, .iload_n 0, 1), (6, .goto 4, 3), (9, .iload_n 1, 1), (10, .ireturn, 1)]
set_option maxRecDepth 100000 in
theorem JMath_min1_d : ax_T JMath_min1_c JMath_min1_t := by unfold ax_T; decide +kernel
abbrev JMath_min2_c : ByteArray := prog_22_method_70_code
def JMath_min2_y : MethodName := ⟨"java/lang/Math", "min", "(JJ)J"⟩
def JMath_min2_t : List (Nat × Instr × Nat) := [(0, .lload_n 0, 1), (1, .lload_n 2, 1), (2, .lcmp, 1), (3, .ifCond .gt 7, 3), (6, .lload_n 0, 1), (7, .goto 4, 3), (10, .lload_n 2, 1), (11, .lreturn, 1)]
set_option maxRecDepth 100000 in
theorem JMath_min2_d : ax_T JMath_min2_c JMath_min2_t := by unfold ax_T; decide +kernel
abbrev JMath_max2_c : ByteArray := prog_22_method_66_code
def JMath_max2_y : MethodName := ⟨"java/lang/Math", "max", "(JJ)J"⟩
def JMath_max2_t : List (Nat × Instr × Nat) := [(0, .lload_n 0, 1), (1, .lload_n 2, 1), (2, .lcmp, 1), (3, .ifCond .lt 7, 3), (6, .lload_n 0, 1), (7, .goto 4, 3), (10, .lload_n 2, 1), (11, .lreturn, 1)]
set_option maxRecDepth 100000 in
theorem JMath_max2_d : ax_T JMath_max2_c JMath_max2_t := by unfold ax_T; decide +kernel
abbrev JMath_abs_c : ByteArray := prog_22_method_59_code
def JMath_abs_y : MethodName := ⟨"java/lang/Math", "abs", "(I)I"⟩
def JMath_abs_t : List (Nat × Instr × Nat) := [(0, .iload_n 0, 1), (1, .ifCond .ge 8, 3), (4, .iload_n 0, 1), (5, .ineg, 1), (6, .goto 4, 3), (9, .iload_n 0, 1), (10, .ireturn, 1)]
set_option maxRecDepth 100000 in
theorem JMath_abs_d : ax_T JMath_abs_c JMath_abs_t := by unfold ax_T; decide +kernel
abbrev JMath_floorDiv_c : ByteArray := prog_22_method_49_code
def JMath_floorDiv_y : MethodName := ⟨"java/lang/Math", "floorDiv", "(JJ)J"⟩
def JMath_floorDiv_t : List (Nat × Instr × Nat) := [(0, .lload_n 0, 1), (1, .lload_n 2, 1), (2, .ldiv, 1), (3, .lstore 4, 2), (5, .lload_n 0, 1), (6, .lload_n 2, 1), (7, .lxor, 1), (8, .lconst 0, 1), (9, .lcmp, 1), (10, .ifCond .ge 17, 3), (13, .lload 4, 2), (15, .lload_n 2, 1), (16, .lmul, 1), (17, .lload_n 0, 1), (18, .lcmp, 1), (19, .ifCond .eq 8, 3), (22, .lload 4, 2), (24, .lconst 1, 1), (25, .lsub, 1), (26, .lreturn, 1), (27, .lload 4, 2), (29, .lreturn, 1)]
set_option maxRecDepth 100000 in
theorem JMath_floorDiv_d : ax_T JMath_floorDiv_c JMath_floorDiv_t := by unfold ax_T; decide +kernel
abbrev JMath_floorMod1_c : ByteArray := prog_22_method_50_code
def JMath_floorMod1_y : MethodName := ⟨"java/lang/Math", "floorMod", "(II)I"⟩
def JMath_floorMod1_t : List (Nat × Instr × Nat) := [(0, .iload_n 0, 1), (1, .iload_n 1, 1), (2, .irem, 1), (3, .istore_n 2, 1), (4, .iload_n 0, 1), (5, .iload_n 1, 1), (6, .ixor, 1), (7, .ifCond .ge 11, 3), (10, .iload_n 2, 1), (11, .ifCond .eq 7, 3), (14, .iload_n 2, 1), (15, .iload_n 1, 1), (16, .iadd, 1), (17, .ireturn, 1), (18, .iload_n 2, 1), (19, .ireturn, 1)]
set_option maxRecDepth 100000 in
theorem JMath_floorMod1_d : ax_T JMath_floorMod1_c JMath_floorMod1_t := by unfold ax_T; decide +kernel
abbrev JMath_floorMod2_c : ByteArray := prog_22_method_52_code
def JMath_floorMod2_y : MethodName := ⟨"java/lang/Math", "floorMod", "(JJ)J"⟩
def JMath_floorMod2_t : List (Nat × Instr × Nat) := [(0, .lload_n 0, 1), (1, .lload_n 2, 1), (2, .lrem, 1), (3, .lstore 4, 2), (5, .lload_n 0, 1), (6, .lload_n 2, 1), (7, .lxor, 1), (8, .lconst 0, 1), (9, .lcmp, 1), (10, .ifCond .ge 15, 3), (13, .lload 4, 2), (15, .lconst 0, 1), (16, .lcmp, 1), (17, .ifCond .eq 8, 3), (20, .lload 4, 2), (22, .lload_n 2, 1), (23, .ladd, 1), (24, .lreturn, 1), (25, .lload 4, 2), (27, .lreturn, 1)]
set_option maxRecDepth 100000 in
theorem JMath_floorMod2_d : ax_T JMath_floorMod2_c JMath_floorMod2_t := by unfold ax_T; decide +kernel
abbrev JIllegalStateException_init_c : ByteArray := prog_20_method_2_code
def JIllegalStateException_init_y : MethodName := ⟨"java/lang/IllegalStateException", "<init>", "(Ljava/lang/String;)V"⟩
def JIllegalStateException_init_t : List (Nat × Instr × Nat) := [(0, .aload_n 0, 1), (1, .aload_n 1, 1), (2, .invokespecial 7, 3), (5, .return_, 1)]
set_option maxRecDepth 100000 in
theorem JIllegalStateException_init_d : ax_T JIllegalStateException_init_c JIllegalStateException_init_t := by unfold ax_T; decide +kernel
abbrev JArrays_copyOf1_c : ByteArray := prog_29_method_123_code
def JArrays_copyOf1_y : MethodName := ⟨"java/util/Arrays", "copyOf", "([II)[I"⟩
def JArrays_copyOf1_t : List (Nat × Instr × Nat) := [(0, .iload_n 1, 1), (1, .aload_n 0, 1), (2, .arraylength, 1), (3, .if_icmp .ne 11, 3), (6, .aload_n 0, 1), (7, .invokevirtual 316, 3), (10, .checkcast 317, 3), (13, .areturn, 1), (14, .iload_n 1, 1), (15, .newarray .int, 2), (17, .astore_n 2, 1), (18, .aload_n 0, 1), (19, .iconst 0, 1), (20, .aload_n 2, 1), (21, .iconst 0, 1), (22, .aload_n 0, 1), (23, .arraylength, 1), (24, .iload_n 1, 1), (25, .invokestatic 304, 3), (28, .invokestatic 150, 3), (31, .aload_n 2, 1), (32, .areturn, 1)]
set_option maxRecDepth 100000 in
theorem JArrays_copyOf1_d : ax_T JArrays_copyOf1_c JArrays_copyOf1_t := by unfold ax_T; decide +kernel
abbrev JArrays_copyOf2_c : ByteArray := prog_29_method_121_code
def JArrays_copyOf2_y : MethodName := ⟨"java/util/Arrays", "copyOf", "([BI)[B"⟩
def JArrays_copyOf2_t : List (Nat × Instr × Nat) := [(0, .iload_n 1, 1), (1, .aload_n 0, 1), (2, .arraylength, 1), (3, .if_icmp .ne 11, 3), (6, .aload_n 0, 1), (7, .invokevirtual 310, 3), (10, .checkcast 311, 3), (13, .areturn, 1), (14, .iload_n 1, 1), (15, .newarray .byte, 2), (17, .astore_n 2, 1), (18, .aload_n 0, 1), (19, .iconst 0, 1), (20, .aload_n 2, 1), (21, .iconst 0, 1), (22, .aload_n 0, 1), (23, .arraylength, 1), (24, .iload_n 1, 1), (25, .invokestatic 304, 3), (28, .invokestatic 150, 3), (31, .aload_n 2, 1), (32, .areturn, 1)]
set_option maxRecDepth 100000 in
theorem JArrays_copyOf2_d : ax_T JArrays_copyOf2_c JArrays_copyOf2_t := by unfold ax_T; decide +kernel
abbrev JString_length_c : ByteArray := prog_24_method_54_code
def JString_length_y : MethodName := ⟨"java/lang/String", "length", "()I"⟩
def JString_length_t : List (Nat × Instr × Nat) := [(0, .aload_n 0, 1), (1, .getfield 9, 3), (4, .arraylength, 1), (5, .aload_n 0, 1), (6, .invokevirtual 335, 3), (9, .ishr, 1), (10, .ireturn, 1)]
set_option maxRecDepth 100000 in
theorem JString_length_d : ax_T JString_length_c JString_length_t := by unfold ax_T; decide +kernel
abbrev JString_coder_c : ByteArray := prog_24_method_152_code
def JString_coder_y : MethodName := ⟨"java/lang/String", "coder", "()B"⟩
def JString_coder_t : List (Nat × Instr × Nat) := [(0, .getstatic 38, 3), (3, .ifCond .eq 10, 3), (6, .aload_n 0, 1), (7, .getfield 15, 3), (10, .goto 4, 3), (13, .iconst 1, 1), (14, .ireturn, 1)]
set_option maxRecDepth 100000 in
theorem JString_coder_d : ax_T JString_coder_c JString_coder_t := by unfold ax_T; decide +kernel
abbrev JString_charAt_c : ByteArray := prog_24_method_56_code
def JString_charAt_y : MethodName := ⟨"java/lang/String", "charAt", "(I)C"⟩
def JString_charAt_t : List (Nat × Instr × Nat) := [(0, .aload_n 0, 1), (1, .invokevirtual 492, 3), (4, .ifCond .eq 12, 3), (7, .aload_n 0, 1), (8, .getfield 9, 3), (11, .iload_n 1, 1), (12, .invokestatic 495, 3), (15, .ireturn, 1), (16, .aload_n 0, 1), (17, .getfield 9, 3), (20, .iload_n 1, 1), (21, .invokestatic 498, 3), (24, .ireturn, 1)]
set_option maxRecDepth 100000 in
theorem JString_charAt_d : ax_T JString_charAt_c JString_charAt_t := by unfold ax_T; decide +kernel
abbrev JString_isLatin1_c : ByteArray := prog_24_method_154_code
def JString_isLatin1_y : MethodName := ⟨"java/lang/String", "isLatin1", "()Z"⟩
def JString_isLatin1_t : List (Nat × Instr × Nat) := [(0, .getstatic 38, 3), (3, .ifCond .eq 14, 3), (6, .aload_n 0, 1), (7, .getfield 15, 3), (10, .ifCond .ne 7, 3), (13, .iconst 1, 1), (14, .goto 4, 3), (17, .iconst 0, 1), (18, .ireturn, 1)]
set_option maxRecDepth 100000 in
theorem JString_isLatin1_d : ax_T JString_isLatin1_c JString_isLatin1_t := by unfold ax_T; decide +kernel
abbrev JString_checkIndex_c : ByteArray := prog_24_method_155_code
def JString_checkIndex_y : MethodName := ⟨"java/lang/String", "checkIndex", "(II)V"⟩
def JString_checkIndex_t : List (Nat × Instr × Nat) := [(0, .iload_n 0, 1), (1, .iload_n 1, 1), (2, .getstatic 1053, 3), (5, .invokestatic 1059, 3), (8, .pop, 1), (9, .return_, 1)]
set_option maxRecDepth 100000 in
theorem JString_checkIndex_d : ax_T JString_checkIndex_c JString_checkIndex_t := by unfold ax_T; decide +kernel
abbrev JStringLatin1_charAt_c : ByteArray := prog_25_method_2_code
def JStringLatin1_charAt_y : MethodName := ⟨"java/lang/StringLatin1", "charAt", "([BI)C"⟩
def JStringLatin1_charAt_t : List (Nat × Instr × Nat) := [(0, .iload_n 1, 1), (1, .aload_n 0, 1), (2, .arraylength, 1), (3, .invokestatic 9, 3), (6, .aload_n 0, 1), (7, .iload_n 1, 1), (8, .baload, 1), (9, .sipush 255, 3), (12, .iand, 1), (13, .i2c, 1), (14, .ireturn, 1)]
set_option maxRecDepth 100000 in
theorem JStringLatin1_charAt_d : ax_T JStringLatin1_charAt_c JStringLatin1_charAt_t := by unfold ax_T; decide +kernel
abbrev JPreconditions_checkIndex_c : ByteArray := prog_30_method_11_code
def JPreconditions_checkIndex_y : MethodName := ⟨"jdk/internal/util/Preconditions", "checkIndex", "(IILjava/util/function/BiFunction;)I"⟩
def JPreconditions_checkIndex_t : List (Nat × Instr × Nat) := [(0, .iload_n 0, 1), (1, .ifCond .lt 8, 3), (4, .iload_n 0, 1), (5, .iload_n 1, 1), (6, .if_icmp .lt 10, 3), (9, .aload_n 2, 1), (10, .iload_n 0, 1), (11, .iload_n 1, 1), (12, .invokestatic 95, 3), (15, .athrow, 1), (16, .iload_n 0, 1), (17, .ireturn, 1)]
set_option maxRecDepth 100000 in
theorem JPreconditions_checkIndex_d : ax_T JPreconditions_checkIndex_c JPreconditions_checkIndex_t := by unfold ax_T; decide +kernel
abbrev JStringUTF16_charAt_c : ByteArray := prog_26_method_83_code
def JStringUTF16_charAt_y : MethodName := ⟨"java/lang/StringUTF16", "charAt", "([BI)C"⟩
def JStringUTF16_charAt_t : List (Nat × Instr × Nat) := [(0, .iload_n 1, 1), (1, .aload_n 0, 1), (2, .invokestatic 67, 3), (5, .aload_n 0, 1), (6, .iload_n 1, 1), (7, .invokestatic 71, 3), (10, .ireturn, 1)]
set_option maxRecDepth 100000 in
theorem JStringUTF16_charAt_d : ax_T JStringUTF16_charAt_c JStringUTF16_charAt_t := by unfold ax_T; decide +kernel
abbrev JStringUTF16_checkIndex_c : ByteArray := prog_26_method_91_code
def JStringUTF16_checkIndex_y : MethodName := ⟨"java/lang/StringUTF16", "checkIndex", "(I[B)V"⟩
def JStringUTF16_checkIndex_t : List (Nat × Instr × Nat) := [(0, .iload_n 0, 1), (1, .aload_n 1, 1), (2, .invokestatic 48, 3), (5, .invokestatic 414, 3), (8, .return_, 1)]
set_option maxRecDepth 100000 in
theorem JStringUTF16_checkIndex_d : ax_T JStringUTF16_checkIndex_c JStringUTF16_checkIndex_t := by unfold ax_T; decide +kernel
abbrev JStringUTF16_length_c : ByteArray := prog_26_method_6_code
def JStringUTF16_length_y : MethodName := ⟨"java/lang/StringUTF16", "length", "([B)I"⟩
def JStringUTF16_length_t : List (Nat × Instr × Nat) := [(0, .aload_n 0, 1), (1, .arraylength, 1), (2, .iconst 1, 1), (3, .ishr, 1), (4, .ireturn, 1)]
set_option maxRecDepth 100000 in
theorem JStringUTF16_length_d : ax_T JStringUTF16_length_c JStringUTF16_length_t := by unfold ax_T; decide +kernel
abbrev JStringUTF16_getChar_c : ByteArray := prog_26_method_5_code
def JStringUTF16_getChar_y : MethodName := ⟨"java/lang/StringUTF16", "getChar", "([BI)C"⟩
def JStringUTF16_getChar_t : List (Nat × Instr × Nat) := [(0, .getstatic 44, 3), (3, .ifCond .ne 25, 3), (6, .iload_n 1, 1), (7, .ifCond .lt 11, 3), (10, .iload_n 1, 1), (11, .aload_n 0, 1), (12, .invokestatic 48, 3), (15, .if_icmp .lt 13, 3), (18, .new 52, 3), (21, .dup, 1), (22, .ldc 54, 2), (24, .invokespecial 56, 3), (27, .athrow, 1), (28, .iload_n 1, 1), (29, .iconst 1, 1), (30, .ishl, 1), (31, .istore_n 1, 1), (32, .aload_n 0, 1), (33, .iload_n 1, 1), (34, .iinc 1 1, 3), (37, .baload, 1), (38, .sipush 255, 3), (41, .iand, 1), (42, .getstatic 59, 3), (45, .ishl, 1), (46, .aload_n 0, 1), (47, .iload_n 1, 1), (48, .baload, 1), (49, .sipush 255, 3), (52, .iand, 1), (53, .getstatic 63, 3), (56, .ishl, 1), (57, .ior, 1), (58, .i2c, 1), (59, .ireturn, 1)]
set_option maxRecDepth 100000 in
theorem JStringUTF16_getChar_d : ax_T JStringUTF16_getChar_c JStringUTF16_getChar_t := by unfold ax_T; decide +kernel
abbrev JIndexOutOfBoundsException_init_c : ByteArray := prog_21_method_2_code
def JIndexOutOfBoundsException_init_y : MethodName := ⟨"java/lang/IndexOutOfBoundsException", "<init>", "(Ljava/lang/String;)V"⟩
def JIndexOutOfBoundsException_init_t : List (Nat × Instr × Nat) := [(0, .aload_n 0, 1), (1, .aload_n 1, 1), (2, .invokespecial 7, 3), (5, .return_, 1)]
set_option maxRecDepth 100000 in
theorem JIndexOutOfBoundsException_init_d : ax_T JIndexOutOfBoundsException_init_c JIndexOutOfBoundsException_init_t := by unfold ax_T; decide +kernel
abbrev JEnum_ordinal_c : ByteArray := prog_17_method_2_code
def JEnum_ordinal_y : MethodName := ⟨"java/lang/Enum", "ordinal", "()I"⟩
def JEnum_ordinal_t : List (Nat × Instr × Nat) := [(0, .aload_n 0, 1), (1, .getfield 7, 3), (4, .ireturn, 1)]
set_option maxRecDepth 100000 in
theorem JEnum_ordinal_d : ax_T JEnum_ordinal_c JEnum_ordinal_t := by unfold ax_T; decide +kernel
end
section
abbrev L_cut_c : ByteArray := method_3_code
def L_cut_y : MethodName := ⟨"NumberFunctionsLaw", "cut", "(LNumberFunctions;I[J)I"⟩
def L_cut_t : List (Nat × Instr × Nat) := [(0, .aload_n 2, 1), (1, .iconst 0, 1), (2, .aload_n 0, 1), (3, .iload_n 1, 1), (4, .invokevirtual 7, 3), (7, .i2l, 1), (8, .lastore, 1), (9, .goto 6, 3), (12, .astore_n 3, 1), (13, .iconst 1, 1), (14, .ireturn, 1), (15, .iconst 0, 1), (16, .ireturn, 1)]
set_option maxRecDepth 100000 in
theorem L_cut_d : ax_T L_cut_c L_cut_t := by unfold ax_T; decide +kernel
abbrev L_tell_c : ByteArray := method_4_code
def L_tell_y : MethodName := ⟨"NumberFunctionsLaw", "tell", "(LNumberFunctions;I[J)I"⟩
def L_tell_t : List (Nat × Instr × Nat) := [(0, .aload_n 2, 1), (1, .iconst 0, 1), (2, .aload_n 0, 1), (3, .iload_n 1, 1), (4, .invokevirtual 15, 3), (7, .i2l, 1), (8, .lastore, 1), (9, .goto 9, 3), (12, .astore_n 3, 1), (13, .iconst 1, 1), (14, .ireturn, 1), (15, .astore_n 3, 1), (16, .iconst 2, 1), (17, .ireturn, 1), (18, .iconst 0, 1), (19, .ireturn, 1)]
set_option maxRecDepth 100000 in
theorem L_tell_d : ax_T L_tell_c L_tell_t := by unfold ax_T; decide +kernel
abbrev L_make_c : ByteArray := method_5_code
def L_make_y : MethodName := ⟨"NumberFunctionsLaw", "make", "(LNumberFunctions;III[J)I"⟩
def L_make_t : List (Nat × Instr × Nat) := [(0, .aload 4, 2), (2, .iconst 0, 1), (3, .aload_n 0, 1), (4, .iload_n 1, 1), (5, .iload_n 2, 1), (6, .iload_n 3, 1), (7, .invokevirtual 20, 3), (10, .i2l, 1), (11, .lastore, 1), (12, .goto 11, 3), (15, .astore 5, 2), (17, .iconst 1, 1), (18, .ireturn, 1), (19, .astore 5, 2), (21, .iconst 2, 1), (22, .ireturn, 1), (23, .iconst 0, 1), (24, .ireturn, 1)]
set_option maxRecDepth 100000 in
theorem L_make_d : ax_T L_make_c L_make_t := by unfold ax_T; decide +kernel
abbrev L_input_c : ByteArray := method_6_code
def L_input_y : MethodName := ⟨"NumberFunctionsLaw", "input", "(LNumberFunctions;II[J)I"⟩
def L_input_t : List (Nat × Instr × Nat) := [(0, .aload_n 3, 1), (1, .iconst 0, 1), (2, .aload_n 0, 1), (3, .iload_n 1, 1), (4, .iload_n 2, 1), (5, .invokevirtual 24, 3), (8, .i2l, 1), (9, .lastore, 1), (10, .goto 7, 3), (13, .astore 4, 2), (15, .iconst 1, 1), (16, .ireturn, 1), (17, .iconst 0, 1), (18, .ireturn, 1)]
set_option maxRecDepth 100000 in
theorem L_input_d : ax_T L_input_c L_input_t := by unfold ax_T; decide +kernel
abbrev L_call_c : ByteArray := method_7_code
def L_call_y : MethodName := ⟨"NumberFunctionsLaw", "call", "(LNumberFunctions;I[J)I"⟩
def L_call_t : List (Nat × Instr × Nat) := [(0, .aload_n 2, 1), (1, .iconst 0, 1), (2, .aload_n 0, 1), (3, .iload_n 1, 1), (4, .invokevirtual 28, 3), (7, .i2l, 1), (8, .lastore, 1), (9, .goto 6, 3), (12, .astore_n 3, 1), (13, .iconst 1, 1), (14, .ireturn, 1), (15, .iconst 0, 1), (16, .ireturn, 1)]
set_option maxRecDepth 100000 in
theorem L_call_d : ax_T L_call_c L_call_t := by unfold ax_T; decide +kernel
abbrev L_output_c : ByteArray := method_8_code
def L_output_y : MethodName := ⟨"NumberFunctionsLaw", "output", "(LNumberFunctions;I[J)I"⟩
def L_output_t : List (Nat × Instr × Nat) := [(0, .aload_n 2, 1), (1, .iconst 0, 1), (2, .aload_n 0, 1), (3, .iload_n 1, 1), (4, .invokevirtual 33, 3), (7, .i2l, 1), (8, .lastore, 1), (9, .goto 6, 3), (12, .astore_n 3, 1), (13, .iconst 1, 1), (14, .ireturn, 1), (15, .iconst 0, 1), (16, .ireturn, 1)]
set_option maxRecDepth 100000 in
theorem L_output_d : ax_T L_output_c L_output_t := by unfold ax_T; decide +kernel
end
section
abbrev M_init_c : ByteArray := prog_15_method_1_code
def M_init_y : MethodName := ⟨"NumberFunctionsModel", "<init>", "()V"⟩
def M_init_t : List (Nat × Instr × Nat) := [(0, .aload_n 0, 1), (1, .invokespecial 1, 3), (4, .aload_n 0, 1), (5, .sipush 8192, 3), (8, .newarray .byte, 2), (10, .putfield 7, 3), (13, .aload_n 0, 1), (14, .bipush 96, 2), (16, .newarray .int, 2), (18, .putfield 13, 3), (21, .aload_n 0, 1), (22, .iconst 4, 1), (23, .newarray .int, 2), (25, .putfield 17, 3), (28, .aload_n 0, 1), (29, .iconst 4, 1), (30, .newarray .int, 2), (32, .putfield 20, 3), (35, .aload_n 0, 1), (36, .iconst (-1), 1), (37, .putfield 23, 3), (40, .aload_n 0, 1), (41, .iconst (-1), 1), (42, .putfield 27, 3), (45, .aload_n 0, 1), (46, .bipush 24, 2), (48, .newarray .int, 2), (50, .putfield 30, 3), (53, .aload_n 0, 1), (54, .bipush 24, 2), (56, .newarray .int, 2), (58, .putfield 33, 3), (61, .aload_n 0, 1), (62, .bipush 24, 2), (64, .newarray .int, 2), (66, .putfield 36, 3), (69, .aload_n 0, 1), (70, .sipush 2304, 3), (73, .newarray .int, 2), (75, .putfield 39, 3), (78, .aload_n 0, 1), (79, .bipush 24, 2), (81, .newarray .int, 2), (83, .putfield 42, 3), (86, .aload_n 0, 1), (87, .ldc 45, 2), (89, .newarray .byte, 2), (91, .putfield 46, 3), (94, .aload_n 0, 1), (95, .bipush 8, 2), (97, .newarray .long, 2), (99, .putfield 49, 3), (102, .aload_n 0, 1), (103, .iconst 4, 1), (104, .newarray .int, 2), (106, .putfield 53, 3), (109, .aload_n 0, 1), (110, .iconst 4, 1), (111, .newarray .long, 2), (113, .putfield 56, 3), (116, .aload_n 0, 1), (117, .iconst 4, 1), (118, .newarray .long, 2), (120, .putfield 59, 3), (123, .aload_n 0, 1), (124, .sipush 402, 3), (127, .newarray .int, 2), (129, .putfield 62, 3), (132, .aload_n 0, 1), (133, .sipush 402, 3), (136, .newarray .int, 2), (138, .putfield 65, 3), (141, .aload_n 0, 1), (142, .bipush 60, 2), (144, .newarray .long, 2), (146, .putfield 68, 3), (149, .aload_n 0, 1), (150, .bipush 60, 2), (152, .newarray .boolean, 2), (154, .putfield 71, 3), (157, .aload_n 0, 1), (158, .bipush 20, 2), (160, .newarray .int, 2), (162, .putfield 75, 3), (165, .return_, 1)]
set_option maxRecDepth 100000 in
theorem M_init_d : ax_T M_init_c M_init_t := by unfold ax_T; decide +kernel
abbrev M_thrown_c : ByteArray := prog_15_method_2_code
def M_thrown_y : MethodName := ⟨"NumberFunctionsModel", "thrown", "()I"⟩
def M_thrown_t : List (Nat × Instr × Nat) := [(0, .aload_n 0, 1), (1, .getfield 78, 3), (4, .ireturn, 1)]
set_option maxRecDepth 100000 in
theorem M_thrown_d : ax_T M_thrown_c M_thrown_t := by unfold ax_T; decide +kernel
abbrev M_feed_c : ByteArray := prog_15_method_5_code
def M_feed_y : MethodName := ⟨"NumberFunctionsModel", "feed", "(IIIII)I"⟩
def M_feed_t : List (Nat × Instr × Nat) := [(0, .aload_n 0, 1), (1, .iconst 0, 1), (2, .putfield 78, 3), (5, .aload_n 0, 1), (6, .getfield 81, 3), (9, .bipush 20, 2), (11, .iadd, 1), (12, .sipush 8192, 3), (15, .if_icmp .le 5, 3), (18, .iconst (-1), 1), (19, .ireturn, 1), (20, .iconst 0, 1), (21, .istore 6, 2), (23, .iload 6, 2), (25, .bipush 20, 2), (27, .if_icmp .ge 90, 3), (30, .iload 6, 2), (32, .iconst 4, 1), (33, .if_icmp .ge 7, 3), (36, .iload_n 1, 1), (37, .goto 39, 3), (40, .iload 6, 2), (42, .bipush 8, 2), (44, .if_icmp .ge 7, 3), (47, .iload_n 2, 1), (48, .goto 28, 3), (51, .iload 6, 2), (53, .bipush 12, 2), (55, .if_icmp .ge 7, 3), (58, .iload_n 3, 1), (59, .goto 17, 3), (62, .iload 6, 2), (64, .bipush 16, 2), (66, .if_icmp .ge 8, 3), (69, .iload 4, 2), (71, .goto 5, 3), (74, .iload 5, 2), (76, .istore 7, 2), (78, .aload_n 0, 1), (79, .getfield 7, 3), (82, .aload_n 0, 1), (83, .getfield 81, 3), (86, .iload 7, 2), (88, .bipush 24, 2), (90, .bipush 8, 2), (92, .iload 6, 2), (94, .iconst 4, 1), (95, .irem, 1), (96, .imul, 1), (97, .isub, 1), (98, .ishr, 1), (99, .i2b, 1), (100, .bastore, 1), (101, .aload_n 0, 1), (102, .dup, 1), (103, .getfield 81, 3), (106, .iconst 1, 1), (107, .iadd, 1), (108, .putfield 81, 3), (111, .iinc 6 1, 3), (114, .goto (-91), 3), (117, .aload_n 0, 1), (118, .getfield 81, 3), (121, .ireturn, 1)]
set_option maxRecDepth 100000 in
theorem M_feed_d : ax_T M_feed_c M_feed_t := by unfold ax_T; decide +kernel
abbrev M_cut_c : ByteArray := prog_15_method_6_code
def M_cut_y : MethodName := ⟨"NumberFunctionsModel", "cut", "(I)I"⟩
def M_cut_t : List (Nat × Instr × Nat) := [(0, .aload_n 0, 1), (1, .iload_n 1, 1), (2, .ifCond .ge 7, 3), (5, .iconst 1, 1), (6, .goto 4, 3), (9, .iconst 0, 1), (10, .invokevirtual 84, 3), (13, .ifCond .eq 5, 3), (16, .iconst 0, 1), (17, .ireturn, 1), (18, .aload_n 0, 1), (19, .getfield 81, 3), (22, .iload_n 1, 1), (23, .if_icmp .le 12, 3), (26, .aload_n 0, 1), (27, .getfield 81, 3), (30, .iload_n 1, 1), (31, .isub, 1), (32, .goto 4, 3), (35, .iconst 0, 1), (36, .istore_n 2, 1), (37, .aload_n 0, 1), (38, .aload_n 0, 1), (39, .getfield 81, 3), (42, .iload_n 2, 1), (43, .isub, 1), (44, .putfield 81, 3), (47, .iload_n 2, 1), (48, .ireturn, 1)]
set_option maxRecDepth 100000 in
theorem M_cut_d : ax_T M_cut_c M_cut_t := by unfold ax_T; decide +kernel
abbrev M_refused_c : ByteArray := prog_15_method_3_code
def M_refused_y : MethodName := ⟨"NumberFunctionsModel", "refused", "(I)Z"⟩
def M_refused_t : List (Nat × Instr × Nat) := [(0, .aload_n 0, 1), (1, .iload_n 1, 1), (2, .putfield 78, 3), (5, .iload_n 1, 1), (6, .ifCond .le 7, 3), (9, .iconst 1, 1), (10, .goto 4, 3), (13, .iconst 0, 1), (14, .ireturn, 1)]
set_option maxRecDepth 100000 in
theorem M_refused_d : ax_T M_refused_c M_refused_t := by unfold ax_T; decide +kernel
abbrev M_tell_c : ByteArray := prog_15_method_7_code
def M_tell_y : MethodName := ⟨"NumberFunctionsModel", "tell", "(I)I"⟩
def M_tell_t : List (Nat × Instr × Nat) := [(0, .aload_n 0, 1), (1, .iload_n 1, 1), (2, .i2l, 1), (3, .ldc2_w 88, 3), (6, .ldc2_w 90, 3), (9, .invokestatic 92, 3), (12, .ifCond .ne 7, 3), (15, .iconst 1, 1), (16, .goto 17, 3), (19, .aload_n 0, 1), (20, .getfield 96, 3), (23, .bipush 96, 2), (25, .if_icmp .ne 7, 3), (28, .iconst 2, 1), (29, .goto 4, 3), (32, .iconst 0, 1), (33, .invokevirtual 84, 3), (36, .ifCond .eq 5, 3), (39, .iconst 0, 1), (40, .ireturn, 1), (41, .aload_n 0, 1), (42, .getfield 13, 3), (45, .aload_n 0, 1), (46, .getfield 96, 3), (49, .iload_n 1, 1), (50, .iastore, 1), (51, .aload_n 0, 1), (52, .dup, 1), (53, .getfield 96, 3), (56, .iconst 1, 1), (57, .iadd, 1), (58, .putfield 96, 3), (61, .aload_n 0, 1), (62, .getfield 96, 3), (65, .ireturn, 1)]
set_option maxRecDepth 100000 in
theorem M_tell_d : ax_T M_tell_c M_tell_t := by unfold ax_T; decide +kernel
abbrev M_isIn_c : ByteArray := prog_15_method_4_code
def M_isIn_y : MethodName := ⟨"NumberFunctionsModel", "isIn", "(JJJ)Z"⟩
def M_isIn_t : List (Nat × Instr × Nat) := [(0, .lload_n 0, 1), (1, .lload_n 2, 1), (2, .lcmp, 1), (3, .ifCond .lt 14, 3), (6, .lload_n 0, 1), (7, .lload 4, 2), (9, .lcmp, 1), (10, .ifCond .gt 7, 3), (13, .iconst 1, 1), (14, .goto 4, 3), (17, .iconst 0, 1), (18, .ireturn, 1)]
set_option maxRecDepth 100000 in
theorem M_isIn_d : ax_T M_isIn_c M_isIn_t := by unfold ax_T; decide +kernel
abbrev M_drop_c : ByteArray := prog_15_method_8_code
def M_drop_y : MethodName := ⟨"NumberFunctionsModel", "drop", "()I"⟩
def M_drop_t : List (Nat × Instr × Nat) := [(0, .aload_n 0, 1), (1, .iconst 0, 1), (2, .putfield 78, 3), (5, .aload_n 0, 1), (6, .getfield 96, 3), (9, .istore_n 1, 1), (10, .aload_n 0, 1), (11, .iconst 0, 1), (12, .putfield 96, 3), (15, .iload_n 1, 1), (16, .ireturn, 1)]
set_option maxRecDepth 100000 in
theorem M_drop_d : ax_T M_drop_c M_drop_t := by unfold ax_T; decide +kernel
abbrev M_clear_c : ByteArray := prog_15_method_9_code
def M_clear_y : MethodName := ⟨"NumberFunctionsModel", "clear", "()I"⟩
def M_clear_t : List (Nat × Instr × Nat) := [(0, .aload_n 0, 1), (1, .iconst 0, 1), (2, .putfield 78, 3), (5, .aload_n 0, 1), (6, .getfield 99, 3), (9, .istore_n 1, 1), (10, .aload_n 0, 1), (11, .iconst 0, 1), (12, .putfield 99, 3), (15, .iload_n 1, 1), (16, .ireturn, 1)]
set_option maxRecDepth 100000 in
theorem M_clear_d : ax_T M_clear_c M_clear_t := by unfold ax_T; decide +kernel
abbrev M_input_c : ByteArray := prog_15_method_10_code
def M_input_y : MethodName := ⟨"NumberFunctionsModel", "input", "(II)I"⟩
def M_input_t : List (Nat × Instr × Nat) := [(0, .aload_n 0, 1), (1, .iload_n 1, 1), (2, .i2l, 1), (3, .lconst 0, 1), (4, .ldc2_w 102, 3), (7, .invokestatic 92, 3), (10, .ifCond .eq 17, 3), (13, .iload_n 2, 1), (14, .i2l, 1), (15, .ldc2_w 88, 3), (18, .ldc2_w 90, 3), (21, .invokestatic 92, 3), (24, .ifCond .ne 7, 3), (27, .iconst 1, 1), (28, .goto 4, 3), (31, .iconst 0, 1), (32, .invokevirtual 84, 3), (35, .ifCond .eq 5, 3), (38, .iconst 0, 1), (39, .ireturn, 1), (40, .aload_n 0, 1), (41, .getfield 17, 3), (44, .iload_n 1, 1), (45, .iaload, 1), (46, .istore_n 3, 1), (47, .aload_n 0, 1), (48, .getfield 17, 3), (51, .iload_n 1, 1), (52, .iload_n 2, 1), (53, .iastore, 1), (54, .iload_n 3, 1), (55, .ireturn, 1)]
set_option maxRecDepth 100000 in
theorem M_input_d : ax_T M_input_c M_input_t := by unfold ax_T; decide +kernel
abbrev M_output_c : ByteArray := prog_15_method_11_code
def M_output_y : MethodName := ⟨"NumberFunctionsModel", "output", "(I)I"⟩
def M_output_t : List (Nat × Instr × Nat) := [(0, .aload_n 0, 1), (1, .iload_n 1, 1), (2, .i2l, 1), (3, .lconst 0, 1), (4, .ldc2_w 102, 3), (7, .invokestatic 92, 3), (10, .ifCond .eq 7, 3), (13, .iconst 0, 1), (14, .goto 4, 3), (17, .iconst 1, 1), (18, .invokevirtual 84, 3), (21, .ifCond .eq 7, 3), (24, .iconst 0, 1), (25, .goto 9, 3), (28, .aload_n 0, 1), (29, .getfield 20, 3), (32, .iload_n 1, 1), (33, .iaload, 1), (34, .ireturn, 1)]
set_option maxRecDepth 100000 in
theorem M_output_d : ax_T M_output_c M_output_t := by unfold ax_T; decide +kernel
abbrev M_fault_c : ByteArray := prog_15_method_12_code
def M_fault_y : MethodName := ⟨"NumberFunctionsModel", "fault", "(I)I"⟩
def M_fault_t : List (Nat × Instr × Nat) := [(0, .aload_n 0, 1), (1, .iconst 0, 1), (2, .putfield 78, 3), (5, .iload_n 1, 1), (6, .ifCond .ne 10, 3), (9, .aload_n 0, 1), (10, .getfield 23, 3), (13, .goto 16, 3), (16, .iload_n 1, 1), (17, .iconst 1, 1), (18, .if_icmp .ne 10, 3), (21, .aload_n 0, 1), (22, .getfield 27, 3), (25, .goto 4, 3), (28, .iconst (-1), 1), (29, .ireturn, 1)]
set_option maxRecDepth 100000 in
theorem M_fault_d : ax_T M_fault_c M_fault_t := by unfold ax_T; decide +kernel
abbrev M_make_c : ByteArray := prog_15_method_27_code
def M_make_y : MethodName := ⟨"NumberFunctionsModel", "make", "(III)I"⟩
def M_make_t : List (Nat × Instr × Nat) := [(0, .aload_n 0, 1), (1, .iload_n 1, 1), (2, .iload_n 2, 1), (3, .iload_n 3, 1), (4, .invokestatic 149, 3), (7, .ifCond .ne 7, 3), (10, .iconst 1, 1), (11, .goto 17, 3), (14, .aload_n 0, 1), (15, .getfield 99, 3), (18, .bipush 24, 2), (20, .if_icmp .ne 7, 3), (23, .iconst 2, 1), (24, .goto 4, 3), (27, .iconst 0, 1), (28, .invokevirtual 84, 3), (31, .ifCond .eq 5, 3), (34, .iconst 0, 1), (35, .ireturn, 1), (36, .aload_n 0, 1), (37, .iconst (-1), 1), (38, .iconst (-1), 1), (39, .invokevirtual 153, 3), (42, .aload_n 0, 1), (43, .iload_n 1, 1), (44, .iload_n 2, 1), (45, .iload_n 3, 1), (46, .invokevirtual 157, 3), (49, .ifCond .ne 11, 3), (52, .aload_n 0, 1), (53, .iconst 1, 1), (54, .iconst 0, 1), (55, .invokevirtual 153, 3), (58, .iconst (-1), 1), (59, .ireturn, 1), (60, .iload_n 1, 1), (61, .ifCond .ne 29, 3), (64, .aload_n 0, 1), (65, .getfield 81, 3), (68, .aload_n 0, 1), (69, .iload_n 2, 1), (70, .iload_n 3, 1), (71, .invokevirtual 160, 3), (74, .if_icmp .ge 16, 3), (77, .aload_n 0, 1), (78, .iconst 2, 1), (79, .aload_n 0, 1), (80, .iload_n 2, 1), (81, .iload_n 3, 1), (82, .invokevirtual 160, 3), (85, .invokevirtual 153, 3), (88, .iconst (-1), 1), (89, .ireturn, 1), (90, .aload_n 0, 1), (91, .getfield 99, 3), (94, .istore 4, 2), (96, .aload_n 0, 1), (97, .getfield 42, 3), (100, .iload 4, 2), (102, .aload_n 0, 1), (103, .getfield 81, 3), (106, .iastore, 1), (107, .iconst 0, 1), (108, .istore 5, 2), (110, .iload 5, 2), (112, .aload_n 0, 1), (113, .getfield 81, 3), (116, .if_icmp .ge 30, 3), (119, .aload_n 0, 1), (120, .getfield 46, 3), (123, .sipush 8192, 3), (126, .iload 4, 2), (128, .imul, 1), (129, .iload 5, 2), (131, .iadd, 1), (132, .aload_n 0, 1), (133, .getfield 7, 3), (136, .iload 5, 2), (138, .baload, 1), (139, .bastore, 1), (140, .iinc 5 1, 3), (143, .goto (-33), 3), (146, .iload_n 1, 1), (147, .iconst 4, 1), (148, .if_icmp .ne 30, 3), (151, .aload_n 0, 1), (152, .iload 4, 2), (154, .invokevirtual 164, 3), (157, .aload_n 0, 1), (158, .getfield 168, 3), (161, .ifCond .le 17, 3), (164, .aload_n 0, 1), (165, .aload_n 0, 1), (166, .getfield 168, 3), (169, .aload_n 0, 1), (170, .getfield 171, 3), (173, .invokevirtual 153, 3), (176, .iconst (-1), 1), (177, .ireturn, 1), (178, .aload_n 0, 1), (179, .getfield 30, 3), (182, .iload 4, 2), (184, .iload_n 1, 1), (185, .iastore, 1), (186, .aload_n 0, 1), (187, .getfield 33, 3), (190, .iload 4, 2), (192, .iload_n 2, 1), (193, .iastore, 1), (194, .aload_n 0, 1), (195, .getfield 36, 3), (198, .iload 4, 2), (200, .iload_n 3, 1), (201, .iastore, 1), (202, .iconst 0, 1), (203, .istore 5, 2), (205, .iload 5, 2), (207, .aload_n 0, 1), (208, .getfield 96, 3), (211, .if_icmp .ge 29, 3), (214, .aload_n 0, 1), (215, .getfield 39, 3), (218, .bipush 96, 2), (220, .iload 4, 2), (222, .imul, 1), (223, .iload 5, 2), (225, .iadd, 1), (226, .aload_n 0, 1), (227, .getfield 13, 3), (230, .iload 5, 2), (232, .iaload, 1), (233, .iastore, 1), (234, .iinc 5 1, 3), (237, .goto (-32), 3), (240, .aload_n 0, 1), (241, .iconst 0, 1), (242, .putfield 96, 3), (245, .aload_n 0, 1), (246, .dup, 1), (247, .getfield 99, 3), (250, .iconst 1, 1), (251, .iadd, 1), (252, .putfield 99, 3), (255, .iload 4, 2), (257, .ireturn, 1)]
set_option maxRecDepth 100000 in
theorem M_make_d : ax_T M_make_c M_make_t := by unfold ax_T; decide +kernel
abbrev M_isKind_c : ByteArray := prog_15_method_18_code
def M_isKind_y : MethodName := ⟨"NumberFunctionsModel", "isKind", "(III)Z"⟩
def M_isKind_t : List (Nat × Instr × Nat) := [(0, .iload_n 1, 1), (1, .i2l, 1), (2, .lconst 1, 1), (3, .ldc2_w 123, 3), (6, .invokestatic 92, 3), (9, .ifCond .eq 19, 3), (12, .iload_n 2, 1), (13, .i2l, 1), (14, .lconst 1, 1), (15, .ldc2_w 123, 3), (18, .invokestatic 92, 3), (21, .ifCond .eq 7, 3), (24, .iconst 1, 1), (25, .goto 4, 3), (28, .iconst 0, 1), (29, .istore_n 3, 1), (30, .iload_n 0, 1), (31, .ifCond .ne 16, 3), (34, .iload_n 1, 1), (35, .iconst 3, 1), (36, .if_icmp .gt 7, 3), (39, .iconst 1, 1), (40, .goto 40, 3), (43, .iconst 0, 1), (44, .goto 36, 3), (47, .iload_n 0, 1), (48, .iconst 2, 1), (49, .if_icmp .eq 8, 3), (52, .iload_n 0, 1), (53, .iconst 3, 1), (54, .if_icmp .ne 16, 3), (57, .iload_n 1, 1), (58, .iconst 1, 1), (59, .if_icmp .ne 7, 3), (62, .iconst 1, 1), (63, .goto 17, 3), (66, .iconst 0, 1), (67, .goto 13, 3), (70, .iload_n 0, 1), (71, .iconst 4, 1), (72, .if_icmp .ne 7, 3), (75, .iconst 1, 1), (76, .goto 4, 3), (79, .iconst 0, 1), (80, .istore 4, 2), (82, .iload_n 3, 1), (83, .ifCond .eq 12, 3), (86, .iload 4, 2), (88, .ifCond .eq 7, 3), (91, .iconst 1, 1), (92, .goto 4, 3), (95, .iconst 0, 1), (96, .ireturn, 1)]
set_option maxRecDepth 100000 in
theorem M_isKind_d : ax_T M_isKind_c M_isKind_t := by unfold ax_T; decide +kernel
abbrev M_tellFault_c : ByteArray := prog_15_method_26_code
def M_tellFault_y : MethodName := ⟨"NumberFunctionsModel", "tellFault", "(II)V"⟩
def M_tellFault_t : List (Nat × Instr × Nat) := [(0, .aload_n 0, 1), (1, .iload_n 1, 1), (2, .putfield 23, 3), (5, .aload_n 0, 1), (6, .iload_n 2, 1), (7, .putfield 27, 3), (10, .return_, 1)]
set_option maxRecDepth 100000 in
theorem M_tellFault_d : ax_T M_tellFault_c M_tellFault_t := by unfold ax_T; decide +kernel
abbrev M_isTold_c : ByteArray := prog_15_method_24_code
def M_isTold_y : MethodName := ⟨"NumberFunctionsModel", "isTold", "(III)Z"⟩
def M_isTold_t : List (Nat × Instr × Nat) := [(0, .iload_n 1, 1), (1, .tableswitch 50 0 3 #[31, 50, 38, 44], 31), (32, .aload_n 0, 1), (33, .iload_n 2, 1), (34, .iload_n 3, 1), (35, .invokevirtual 134, 3), (38, .ireturn, 1), (39, .aload_n 0, 1), (40, .iload_n 3, 1), (41, .invokevirtual 138, 3), (44, .ireturn, 1), (45, .aload_n 0, 1), (46, .iload_n 3, 1), (47, .invokevirtual 141, 3), (50, .ireturn, 1), (51, .aload_n 0, 1), (52, .iload_n 2, 1), (53, .iload_n 3, 1), (54, .iadd, 1), (55, .invokevirtual 144, 3), (58, .ireturn, 1)]
set_option maxRecDepth 100000 in
theorem M_isTold_d : ax_T M_isTold_c M_isTold_t := by unfold ax_T; decide +kernel
abbrev M_isSamples_c : ByteArray := prog_15_method_21_code
def M_isSamples_y : MethodName := ⟨"NumberFunctionsModel", "isSamples", "(II)Z"⟩
def M_isSamples_t : List (Nat × Instr × Nat) := [(0, .aload_n 0, 1), (1, .getfield 96, 3), (4, .iconst 5, 1), (5, .iload_n 1, 1), (6, .imul, 1), (7, .iconst 1, 1), (8, .iadd, 1), (9, .iconst 4, 1), (10, .iload_n 2, 1), (11, .imul, 1), (12, .iadd, 1), (13, .if_icmp .ne 7, 3), (16, .iconst 1, 1), (17, .goto 4, 3), (20, .iconst 0, 1), (21, .istore_n 3, 1), (22, .iconst 0, 1), (23, .istore 4, 2), (25, .iload 4, 2), (27, .iload_n 1, 1), (28, .if_icmp .ge 52, 3), (31, .iload_n 3, 1), (32, .ifCond .eq 48, 3), (35, .aload_n 0, 1), (36, .iconst 5, 1), (37, .iload 4, 2), (39, .imul, 1), (40, .invokevirtual 125, 3), (43, .ifCond .eq 29, 3), (46, .aload_n 0, 1), (47, .getfield 13, 3), (50, .iconst 5, 1), (51, .iload 4, 2), (53, .imul, 1), (54, .iconst 2, 1), (55, .iadd, 1), (56, .iaload, 1), (57, .i2l, 1), (58, .lconst 1, 1), (59, .ldc2_w 128, 3), (62, .invokestatic 92, 3), (65, .ifCond .eq 7, 3), (68, .iconst 1, 1), (69, .goto 4, 3), (72, .iconst 0, 1), (73, .istore_n 3, 1), (74, .iinc 4 1, 3), (77, .goto (-52), 3), (80, .iload_n 3, 1), (81, .ifCond .eq 14, 3), (84, .aload_n 0, 1), (85, .getfield 13, 3), (88, .iconst 5, 1), (89, .iload_n 1, 1), (90, .imul, 1), (91, .iaload, 1), (92, .goto 4, 3), (95, .iconst 0, 1), (96, .istore 4, 2), (98, .iload_n 3, 1), (99, .ifCond .eq 46, 3), (102, .iload 4, 2), (104, .iconst 1, 1), (105, .if_icmp .eq 36, 3), (108, .iload 4, 2), (110, .iconst 2, 1), (111, .if_icmp .eq 30, 3), (114, .iload 4, 2), (116, .iconst 4, 1), (117, .if_icmp .eq 24, 3), (120, .iload 4, 2), (122, .bipush 8, 2), (124, .if_icmp .eq 17, 3), (127, .iload 4, 2), (129, .bipush 12, 2), (131, .if_icmp .eq 10, 3), (134, .iload 4, 2), (136, .bipush 16, 2), (138, .if_icmp .ne 7, 3), (141, .iconst 1, 1), (142, .goto 4, 3), (145, .iconst 0, 1), (146, .istore_n 3, 1), (147, .iconst 0, 1), (148, .istore 5, 2), (150, .iload 5, 2), (152, .iload_n 2, 1), (153, .if_icmp .ge 28, 3), (156, .iload_n 3, 1), (157, .ifCond .eq 24, 3), (160, .aload_n 0, 1), (161, .iconst 5, 1), (162, .iload_n 1, 1), (163, .imul, 1), (164, .iconst 1, 1), (165, .iadd, 1), (166, .iconst 4, 1), (167, .iload 5, 2), (169, .imul, 1), (170, .iadd, 1), (171, .invokevirtual 125, 3), (174, .istore_n 3, 1), (175, .iinc 5 1, 3), (178, .goto (-28), 3), (181, .iload_n 3, 1), (182, .ireturn, 1)]
set_option maxRecDepth 100000 in
theorem M_isSamples_d : ax_T M_isSamples_c M_isSamples_t := by unfold ax_T; decide +kernel
abbrev M_isPair_c : ByteArray := prog_15_method_19_code
def M_isPair_y : MethodName := ⟨"NumberFunctionsModel", "isPair", "(I)Z"⟩
def M_isPair_t : List (Nat × Instr × Nat) := [(0, .aload_n 0, 1), (1, .getfield 13, 3), (4, .iload_n 1, 1), (5, .iaload, 1), (6, .aload_n 0, 1), (7, .getfield 13, 3), (10, .iload_n 1, 1), (11, .iconst 1, 1), (12, .iadd, 1), (13, .iaload, 1), (14, .if_icmp .gt 7, 3), (17, .iconst 1, 1), (18, .goto 4, 3), (21, .iconst 0, 1), (22, .ireturn, 1)]
set_option maxRecDepth 100000 in
theorem M_isPair_d : ax_T M_isPair_c M_isPair_t := by unfold ax_T; decide +kernel
abbrev M_isPowers_c : ByteArray := prog_15_method_22_code
def M_isPowers_y : MethodName := ⟨"NumberFunctionsModel", "isPowers", "(I)Z"⟩
def M_isPowers_t : List (Nat × Instr × Nat) := [(0, .aload_n 0, 1), (1, .getfield 96, 3), (4, .iconst 3, 1), (5, .iconst 2, 1), (6, .iload_n 1, 1), (7, .imul, 1), (8, .iadd, 1), (9, .if_icmp .ne 32, 3), (12, .aload_n 0, 1), (13, .iconst 0, 1), (14, .invokevirtual 125, 3), (17, .ifCond .eq 24, 3), (20, .aload_n 0, 1), (21, .getfield 13, 3), (24, .iconst 2, 1), (25, .iaload, 1), (26, .i2l, 1), (27, .lconst 0, 1), (28, .ldc2_w 130, 3), (31, .invokestatic 92, 3), (34, .ifCond .eq 7, 3), (37, .iconst 1, 1), (38, .goto 4, 3), (41, .iconst 0, 1), (42, .ireturn, 1)]
set_option maxRecDepth 100000 in
theorem M_isPowers_d : ax_T M_isPowers_c M_isPowers_t := by unfold ax_T; decide +kernel
abbrev M_isStitched_c : ByteArray := prog_15_method_23_code
def M_isStitched_y : MethodName := ⟨"NumberFunctionsModel", "isStitched", "(I)Z"⟩
def M_isStitched_t : List (Nat × Instr × Nat) := [(0, .aload_n 0, 1), (1, .getfield 96, 3), (4, .iconst 3, 1), (5, .if_icmp .lt 32, 3), (8, .aload_n 0, 1), (9, .iconst 0, 1), (10, .invokevirtual 125, 3), (13, .ifCond .eq 24, 3), (16, .aload_n 0, 1), (17, .getfield 13, 3), (20, .iconst 2, 1), (21, .iaload, 1), (22, .i2l, 1), (23, .lconst 1, 1), (24, .ldc2_w 132, 3), (27, .invokestatic 92, 3), (30, .ifCond .eq 7, 3), (33, .iconst 1, 1), (34, .goto 4, 3), (37, .iconst 0, 1), (38, .istore_n 2, 1), (39, .iload_n 2, 1), (40, .ifCond .eq 12, 3), (43, .aload_n 0, 1), (44, .getfield 13, 3), (47, .iconst 2, 1), (48, .iaload, 1), (49, .goto 4, 3), (52, .iconst 0, 1), (53, .istore_n 3, 1), (54, .iload_n 2, 1), (55, .ifCond .eq 19, 3), (58, .aload_n 0, 1), (59, .getfield 96, 3), (62, .iconst 4, 1), (63, .iload_n 3, 1), (64, .imul, 1), (65, .iconst 2, 1), (66, .iadd, 1), (67, .if_icmp .ne 7, 3), (70, .iconst 1, 1), (71, .goto 4, 3), (74, .iconst 0, 1), (75, .istore_n 2, 1), (76, .iconst 0, 1), (77, .istore 4, 2), (79, .iload 4, 2), (81, .iload_n 3, 1), (82, .if_icmp .ge 69, 3), (85, .iload_n 2, 1), (86, .ifCond .eq 65, 3), (89, .aload_n 0, 1), (90, .getfield 13, 3), (93, .iconst 3, 1), (94, .iload 4, 2), (96, .iadd, 1), (97, .iaload, 1), (98, .istore 5, 2), (100, .iload 5, 2), (102, .i2l, 1), (103, .lconst 0, 1), (104, .aload_n 0, 1), (105, .getfield 99, 3), (108, .iconst 1, 1), (109, .isub, 1), (110, .i2l, 1), (111, .invokestatic 92, 3), (114, .ifCond .eq 29, 3), (117, .aload_n 0, 1), (118, .getfield 33, 3), (121, .iload 5, 2), (123, .iaload, 1), (124, .iconst 1, 1), (125, .if_icmp .ne 18, 3), (128, .aload_n 0, 1), (129, .getfield 36, 3), (132, .iload 5, 2), (134, .iaload, 1), (135, .iload_n 1, 1), (136, .if_icmp .ne 7, 3), (139, .iconst 1, 1), (140, .goto 4, 3), (143, .iconst 0, 1), (144, .istore_n 2, 1), (145, .iinc 4 1, 3), (148, .goto (-69), 3), (151, .iconst 0, 1), (152, .istore 4, 2), (154, .iload 4, 2), (156, .iload_n 3, 1), (157, .iconst 1, 1), (158, .isub, 1), (159, .if_icmp .ge 73, 3), (162, .iload_n 2, 1), (163, .ifCond .eq 69, 3), (166, .aload_n 0, 1), (167, .getfield 13, 3), (170, .iconst 3, 1), (171, .iload_n 3, 1), (172, .iadd, 1), (173, .iload 4, 2), (175, .iadd, 1), (176, .iaload, 1), (177, .istore 5, 2), (179, .iload 5, 2), (181, .iload 4, 2), (183, .ifCond .ne 12, 3), (186, .aload_n 0, 1), (187, .getfield 13, 3), (190, .iconst 0, 1), (191, .iaload, 1), (192, .goto 14, 3), (195, .aload_n 0, 1), (196, .getfield 13, 3), (199, .iconst 2, 1), (200, .iload_n 3, 1), (201, .iadd, 1), (202, .iload 4, 2), (204, .iadd, 1), (205, .iaload, 1), (206, .if_icmp .le 18, 3), (209, .iload 5, 2), (211, .aload_n 0, 1), (212, .getfield 13, 3), (215, .iconst 1, 1), (216, .iaload, 1), (217, .if_icmp .ge 7, 3), (220, .iconst 1, 1), (221, .goto 4, 3), (224, .iconst 0, 1), (225, .istore_n 2, 1), (226, .iinc 4 1, 3), (229, .goto (-75), 3), (232, .iload_n 2, 1), (233, .ireturn, 1)]
set_option maxRecDepth 100000 in
theorem M_isStitched_d : ax_T M_isStitched_c M_isStitched_t := by unfold ax_T; decide +kernel
abbrev M_arePairs_c : ByteArray := prog_15_method_20_code
def M_arePairs_y : MethodName := ⟨"NumberFunctionsModel", "arePairs", "(I)Z"⟩
def M_arePairs_t : List (Nat × Instr × Nat) := [(0, .aload_n 0, 1), (1, .getfield 96, 3), (4, .iconst 2, 1), (5, .iload_n 1, 1), (6, .imul, 1), (7, .if_icmp .ne 7, 3), (10, .iconst 1, 1), (11, .goto 4, 3), (14, .iconst 0, 1), (15, .istore_n 2, 1), (16, .iconst 0, 1), (17, .istore_n 3, 1), (18, .iload_n 3, 1), (19, .iload_n 1, 1), (20, .if_icmp .ge 21, 3), (23, .iload_n 2, 1), (24, .ifCond .eq 17, 3), (27, .aload_n 0, 1), (28, .iconst 2, 1), (29, .iload_n 3, 1), (30, .imul, 1), (31, .invokevirtual 125, 3), (34, .istore_n 2, 1), (35, .iinc 3 1, 3), (38, .goto (-20), 3), (41, .iload_n 2, 1), (42, .ireturn, 1)]
set_option maxRecDepth 100000 in
theorem M_arePairs_d : ax_T M_arePairs_c M_arePairs_t := by unfold ax_T; decide +kernel
abbrev M_sampleBytes_c : ByteArray := prog_15_method_25_code
def M_sampleBytes_y : MethodName := ⟨"NumberFunctionsModel", "sampleBytes", "(II)I"⟩
def M_sampleBytes_t : List (Nat × Instr × Nat) := [(0, .iload_n 2, 1), (1, .i2l, 1), (2, .lstore_n 3, 1), (3, .iconst 0, 1), (4, .istore 5, 2), (6, .iload 5, 2), (8, .iload_n 1, 1), (9, .if_icmp .ge 24, 3), (12, .lload_n 3, 1), (13, .aload_n 0, 1), (14, .getfield 13, 3), (17, .iconst 5, 1), (18, .iload 5, 2), (20, .imul, 1), (21, .iconst 2, 1), (22, .iadd, 1), (23, .iaload, 1), (24, .i2l, 1), (25, .lmul, 1), (26, .lstore_n 3, 1), (27, .iinc 5 1, 3), (30, .goto (-24), 3), (33, .lload_n 3, 1), (34, .aload_n 0, 1), (35, .getfield 13, 3), (38, .iconst 5, 1), (39, .iload_n 1, 1), (40, .imul, 1), (41, .iaload, 1), (42, .i2l, 1), (43, .lmul, 1), (44, .ldc2_w 147, 3), (47, .ladd, 1), (48, .ldc2_w 132, 3), (51, .ldiv, 1), (52, .l2i, 1), (53, .ireturn, 1)]
set_option maxRecDepth 100000 in
theorem M_sampleBytes_d : ax_T M_sampleBytes_c M_sampleBytes_t := by unfold ax_T; decide +kernel
abbrev M_readWords_c : ByteArray := prog_15_method_31_code
def M_readWords_y : MethodName := ⟨"NumberFunctionsModel", "readWords", "(I)V"⟩
def M_readWords_t : List (Nat × Instr × Nat) := [(0, .aload_n 0, 1), (1, .iconst 0, 1), (2, .putfield 168, 3), (5, .aload_n 0, 1), (6, .iconst 0, 1), (7, .putfield 174, 3), (10, .iconst 0, 1), (11, .istore_n 2, 1), (12, .iconst 0, 1), (13, .istore_n 3, 1), (14, .iload_n 3, 1), (15, .bipush 20, 2), (17, .if_icmp .ge 16, 3), (20, .aload_n 0, 1), (21, .getfield 75, 3), (24, .iload_n 3, 1), (25, .iconst 0, 1), (26, .iastore, 1), (27, .iinc 3 1, 3), (30, .goto (-16), 3), (33, .iconst 0, 1), (34, .istore_n 3, 1), (35, .iconst 0, 1), (36, .istore 4, 2), (38, .iload 4, 2), (40, .aload_n 0, 1), (41, .getfield 42, 3), (44, .iload_n 1, 1), (45, .iaload, 1), (46, .if_icmp .ge 404, 3), (49, .aload_n 0, 1), (50, .getfield 168, 3), (53, .ifCond .ne 397, 3), (56, .aload_n 0, 1), (57, .iload_n 1, 1), (58, .iload 4, 2), (60, .invokevirtual 177, 3), (63, .istore 5, 2), (65, .iload 5, 2), (67, .bipush 32, 2), (69, .if_icmp .gt 9, 3), (72, .iinc 4 1, 3), (75, .goto (-37), 3), (78, .iload 4, 2), (80, .iconst 1, 1), (81, .iadd, 1), (82, .istore 6, 2), (84, .iload 5, 2), (86, .invokestatic 180, 3), (89, .ifCond .ne 45, 3), (92, .iload 6, 2), (94, .aload_n 0, 1), (95, .getfield 42, 3), (98, .iload_n 1, 1), (99, .iaload, 1), (100, .if_icmp .ge 34, 3), (103, .aload_n 0, 1), (104, .iload_n 1, 1), (105, .iload 6, 2), (107, .invokevirtual 177, 3), (110, .bipush 32, 2), (112, .if_icmp .le 22, 3), (115, .aload_n 0, 1), (116, .iload_n 1, 1), (117, .iload 6, 2), (119, .invokevirtual 177, 3), (122, .invokestatic 180, 3), (125, .ifCond .ne 9, 3), (128, .iinc 6 1, 3), (131, .goto (-47), 3), (134, .aload_n 0, 1), (135, .getfield 174, 3), (138, .sipush 400, 3), (141, .if_icmp .ne 11, 3), (144, .aload_n 0, 1), (145, .iconst 5, 1), (146, .iload 4, 2), (148, .invokevirtual 183, 3), (151, .return_, 1), (152, .aload_n 0, 1), (153, .getfield 62, 3), (156, .aload_n 0, 1), (157, .getfield 174, 3), (160, .iload 4, 2), (162, .iastore, 1), (163, .aload_n 0, 1), (164, .getfield 65, 3), (167, .aload_n 0, 1), (168, .getfield 174, 3), (171, .iload 6, 2), (173, .iastore, 1), (174, .iload 5, 2), (176, .bipush 123, 2), (178, .if_icmp .ne 7, 3), (181, .iconst 1, 1), (182, .goto 4, 3), (185, .iconst 0, 1), (186, .istore 7, 2), (188, .iload 5, 2), (190, .bipush 125, 2), (192, .if_icmp .ne 7, 3), (195, .iconst 1, 1), (196, .goto 4, 3), (199, .iconst 0, 1), (200, .istore 8, 2), (202, .aload_n 0, 1), (203, .iload_n 1, 1), (204, .aload_n 0, 1), (205, .getfield 174, 3), (208, .ldc 186, 2), (210, .invokevirtual 188, 3), (213, .istore 9, 2), (215, .aload_n 0, 1), (216, .iload_n 1, 1), (217, .aload_n 0, 1), (218, .getfield 174, 3), (221, .ldc 192, 2), (223, .invokevirtual 188, 3), (226, .istore 10, 2), (228, .aload_n 0, 1), (229, .getfield 75, 3), (232, .iload_n 2, 1), (233, .iaload, 1), (234, .istore 11, 2), (236, .iload_n 2, 1), (237, .ifCond .ne 20, 3), (240, .iload 7, 2), (242, .ifCond .eq 11, 3), (245, .iload_n 3, 1), (246, .ifCond .ne 7, 3), (249, .iconst 1, 1), (250, .goto 74, 3), (253, .iconst 0, 1), (254, .goto 70, 3), (257, .iload 7, 2), (259, .ifCond .eq 17, 3), (262, .iload 11, 2), (264, .iconst 2, 1), (265, .if_icmp .ge 7, 3), (268, .iconst 1, 1), (269, .goto 55, 3), (272, .iconst 0, 1), (273, .goto 51, 3), (276, .iload 9, 2), (278, .ifCond .eq 17, 3), (281, .iload 11, 2), (283, .iconst 1, 1), (284, .if_icmp .ne 7, 3), (287, .iconst 1, 1), (288, .goto 36, 3), (291, .iconst 0, 1), (292, .goto 32, 3), (295, .iload 10, 2), (297, .ifCond .eq 17, 3), (300, .iload 11, 2), (302, .iconst 2, 1), (303, .if_icmp .ne 7, 3), (306, .iconst 1, 1), (307, .goto 17, 3), (310, .iconst 0, 1), (311, .goto 13, 3), (314, .iload 11, 2), (316, .ifCond .ne 7, 3), (319, .iconst 1, 1), (320, .goto 4, 3), (323, .iconst 0, 1), (324, .istore 12, 2), (326, .aload_n 0, 1), (327, .dup, 1), (328, .getfield 174, 3), (331, .iconst 1, 1), (332, .iadd, 1), (333, .putfield 174, 3), (336, .iload 12, 2), (338, .ifCond .ne 14, 3), (341, .aload_n 0, 1), (342, .bipush 7, 2), (344, .iload 4, 2), (346, .invokevirtual 183, 3), (349, .goto 94, 3), (352, .iload 7, 2), (354, .ifCond .eq 20, 3), (357, .iload_n 2, 1), (358, .bipush 12, 2), (360, .if_icmp .ne 14, 3), (363, .aload_n 0, 1), (364, .bipush 6, 2), (366, .iload 4, 2), (368, .invokevirtual 183, 3), (371, .goto 72, 3), (374, .iload 7, 2), (376, .ifCond .eq 16, 3), (379, .iinc 2 1, 3), (382, .aload_n 0, 1), (383, .getfield 75, 3), (386, .iload_n 2, 1), (387, .iconst 0, 1), (388, .iastore, 1), (389, .goto 54, 3), (392, .iload 8, 2), (394, .ifCond .eq 29, 3), (397, .iinc 2 (-1), 3), (400, .aload_n 0, 1), (401, .getfield 75, 3), (404, .iload_n 2, 1), (405, .dup2, 1), (406, .iaload, 1), (407, .iconst 1, 1), (408, .iadd, 1), (409, .iastore, 1), (410, .iload_n 2, 1), (411, .ifCond .ne 7, 3), (414, .iconst 1, 1), (415, .goto 4, 3), (418, .iconst 0, 1), (419, .istore_n 3, 1), (420, .goto 23, 3), (423, .aload_n 0, 1), (424, .getfield 75, 3), (427, .iload_n 2, 1), (428, .iconst 0, 1), (429, .iastore, 1), (430, .aload_n 0, 1), (431, .iload_n 1, 1), (432, .aload_n 0, 1), (433, .getfield 174, 3), (436, .iconst 1, 1), (437, .isub, 1), (438, .iload 4, 2), (440, .invokevirtual 194, 3), (443, .iload 6, 2), (445, .istore 4, 2), (447, .goto (-409), 3), (450, .iload_n 3, 1), (451, .ifCond .ne 15, 3), (454, .aload_n 0, 1), (455, .bipush 7, 2), (457, .aload_n 0, 1), (458, .getfield 42, 3), (461, .iload_n 1, 1), (462, .iaload, 1), (463, .invokevirtual 183, 3), (466, .return_, 1)]
set_option maxRecDepth 100000 in
theorem M_readWords_d : ax_T M_readWords_c M_readWords_t := by unfold ax_T; decide +kernel
abbrev M_signAt_c : ByteArray := prog_15_method_28_code
def M_signAt_y : MethodName := ⟨"NumberFunctionsModel", "signAt", "(II)I"⟩
def M_signAt_t : List (Nat × Instr × Nat) := [(0, .aload_n 0, 1), (1, .getfield 46, 3), (4, .sipush 8192, 3), (7, .iload_n 1, 1), (8, .imul, 1), (9, .iload_n 2, 1), (10, .iadd, 1), (11, .baload, 1), (12, .sipush 255, 3), (15, .iand, 1), (16, .ireturn, 1)]
set_option maxRecDepth 100000 in
theorem M_signAt_d : ax_T M_signAt_c M_signAt_t := by unfold ax_T; decide +kernel
abbrev M_isBrace_c : ByteArray := prog_15_method_29_code
def M_isBrace_y : MethodName := ⟨"NumberFunctionsModel", "isBrace", "(I)Z"⟩
def M_isBrace_t : List (Nat × Instr × Nat) := [(0, .iload_n 0, 1), (1, .bipush 123, 2), (3, .if_icmp .eq 9, 3), (6, .iload_n 0, 1), (7, .bipush 125, 2), (9, .if_icmp .ne 7, 3), (12, .iconst 1, 1), (13, .goto 4, 3), (16, .iconst 0, 1), (17, .ireturn, 1)]
set_option maxRecDepth 100000 in
theorem M_isBrace_d : ax_T M_isBrace_c M_isBrace_t := by unfold ax_T; decide +kernel
end
section
abbrev M_show_c : ByteArray := prog_15_method_30_code
def M_show_y : MethodName := ⟨"NumberFunctionsModel", "show", "(II)V"⟩
def M_show_t : List (Nat × Instr × Nat) := [(0, .aload_n 0, 1), (1, .getfield 168, 3), (4, .ifCond .ne 13, 3), (7, .aload_n 0, 1), (8, .iload_n 1, 1), (9, .putfield 168, 3), (12, .aload_n 0, 1), (13, .iload_n 2, 1), (14, .putfield 171, 3), (17, .return_, 1)]
set_option maxRecDepth 100000 in
theorem M_show_d : ax_T M_show_c M_show_t := by unfold ax_T; decide +kernel
abbrev M_isWord_c : ByteArray := prog_15_method_32_code
def M_isWord_y : MethodName := ⟨"NumberFunctionsModel", "isWord", "(IILjava/lang/String;)Z"⟩
def M_isWord_t : List (Nat × Instr × Nat) := [(0, .aload_n 0, 1), (1, .getfield 65, 3), (4, .iload_n 2, 1), (5, .iaload, 1), (6, .aload_n 0, 1), (7, .getfield 62, 3), (10, .iload_n 2, 1), (11, .iaload, 1), (12, .isub, 1), (13, .aload_n 3, 1), (14, .invokevirtual 198, 3), (17, .if_icmp .ne 7, 3), (20, .iconst 1, 1), (21, .goto 4, 3), (24, .iconst 0, 1), (25, .istore 4, 2), (27, .iconst 0, 1), (28, .istore 5, 2), (30, .iload 5, 2), (32, .aload_n 3, 1), (33, .invokevirtual 198, 3), (36, .if_icmp .ge 44, 3), (39, .iload 4, 2), (41, .ifCond .eq 39, 3), (44, .aload_n 0, 1), (45, .iload_n 1, 1), (46, .aload_n 0, 1), (47, .getfield 62, 3), (50, .iload_n 2, 1), (51, .iaload, 1), (52, .iload 5, 2), (54, .iadd, 1), (55, .invokevirtual 177, 3), (58, .aload_n 3, 1), (59, .iload 5, 2), (61, .invokevirtual 204, 3), (64, .if_icmp .ne 7, 3), (67, .iconst 1, 1), (68, .goto 4, 3), (71, .iconst 0, 1), (72, .istore 4, 2), (74, .iinc 5 1, 3), (77, .goto (-47), 3), (80, .iload 4, 2), (82, .ireturn, 1)]
set_option maxRecDepth 100000 in
theorem M_isWord_d : ax_T M_isWord_c M_isWord_t := by unfold ax_T; decide +kernel
abbrev M_checkWord_c : ByteArray := prog_15_method_36_code
def M_checkWord_y : MethodName := ⟨"NumberFunctionsModel", "checkWord", "(III)V"⟩
def M_checkWord_t : List (Nat × Instr × Nat) := [(0, .aload_n 0, 1), (1, .iload_n 1, 1), (2, .iload_n 2, 1), (3, .invokevirtual 219, 3), (6, .ifCond .eq 26, 3), (9, .aload_n 0, 1), (10, .iload_n 1, 1), (11, .iload_n 2, 1), (12, .iconst 0, 1), (13, .invokevirtual 222, 3), (16, .ldc2_w 226, 3), (19, .lcmp, 1), (20, .ifCond .le 27, 3), (23, .aload_n 0, 1), (24, .iconst 3, 1), (25, .iload_n 3, 1), (26, .invokevirtual 183, 3), (29, .goto 18, 3), (32, .aload_n 0, 1), (33, .iload_n 1, 1), (34, .iload_n 2, 1), (35, .invokevirtual 228, 3), (38, .ifCond .ge 9, 3), (41, .aload_n 0, 1), (42, .iconst 4, 1), (43, .iload_n 3, 1), (44, .invokevirtual 183, 3), (47, .return_, 1)]
set_option maxRecDepth 100000 in
theorem M_checkWord_d : ax_T M_checkWord_c M_checkWord_t := by unfold ax_T; decide +kernel
abbrev M_isNumber_c : ByteArray := prog_15_method_34_code
def M_isNumber_y : MethodName := ⟨"NumberFunctionsModel", "isNumber", "(II)Z"⟩
def M_isNumber_t : List (Nat × Instr × Nat) := [(0, .aload_n 0, 1), (1, .getfield 62, 3), (4, .iload_n 2, 1), (5, .iaload, 1), (6, .istore_n 3, 1), (7, .aload_n 0, 1), (8, .iload_n 1, 1), (9, .iload_n 3, 1), (10, .invokevirtual 177, 3), (13, .istore 4, 2), (15, .iload 4, 2), (17, .bipush 43, 2), (19, .if_icmp .eq 10, 3), (22, .iload 4, 2), (24, .bipush 45, 2), (26, .if_icmp .ne 9, 3), (29, .iload_n 3, 1), (30, .iconst 1, 1), (31, .iadd, 1), (32, .goto 4, 3), (35, .iload_n 3, 1), (36, .istore_n 3, 1), (37, .iconst 0, 1), (38, .istore 5, 2), (40, .iload_n 3, 1), (41, .aload_n 0, 1), (42, .getfield 65, 3), (45, .iload_n 2, 1), (46, .iaload, 1), (47, .if_icmp .ge 24, 3), (50, .aload_n 0, 1), (51, .iload_n 1, 1), (52, .iload_n 3, 1), (53, .invokevirtual 177, 3), (56, .invokestatic 208, 3), (59, .ifCond .eq 12, 3), (62, .iinc 3 1, 3), (65, .iinc 5 1, 3), (68, .goto (-28), 3), (71, .iload 5, 2), (73, .ifCond .le 74, 3), (76, .iload_n 3, 1), (77, .aload_n 0, 1), (78, .getfield 65, 3), (81, .iload_n 2, 1), (82, .iaload, 1), (83, .if_icmp .ge 64, 3), (86, .aload_n 0, 1), (87, .iload_n 1, 1), (88, .iload_n 3, 1), (89, .invokevirtual 177, 3), (92, .bipush 46, 2), (94, .if_icmp .ne 53, 3), (97, .iinc 3 1, 3), (100, .iconst 0, 1), (101, .istore 6, 2), (103, .iload_n 3, 1), (104, .aload_n 0, 1), (105, .getfield 65, 3), (108, .iload_n 2, 1), (109, .iaload, 1), (110, .if_icmp .ge 24, 3), (113, .aload_n 0, 1), (114, .iload_n 1, 1), (115, .iload_n 3, 1), (116, .invokevirtual 177, 3), (119, .invokestatic 208, 3), (122, .ifCond .eq 12, 3), (125, .iinc 3 1, 3), (128, .iinc 6 1, 3), (131, .goto (-28), 3), (134, .iload 6, 2), (136, .ifCond .le 8, 3), (139, .iload 5, 2), (141, .goto 4, 3), (144, .iconst 0, 1), (145, .istore 5, 2), (147, .iload 5, 2), (149, .ifCond .le 17, 3), (152, .iload_n 3, 1), (153, .aload_n 0, 1), (154, .getfield 65, 3), (157, .iload_n 2, 1), (158, .iaload, 1), (159, .if_icmp .ne 7, 3), (162, .iconst 1, 1), (163, .goto 4, 3), (166, .iconst 0, 1), (167, .ireturn, 1)]
set_option maxRecDepth 100000 in
theorem M_isNumber_d : ax_T M_isNumber_c M_isNumber_t := by unfold ax_T; decide +kernel
abbrev M_isDigit_c : ByteArray := prog_15_method_33_code
def M_isDigit_y : MethodName := ⟨"NumberFunctionsModel", "isDigit", "(I)Z"⟩
def M_isDigit_t : List (Nat × Instr × Nat) := [(0, .iload_n 0, 1), (1, .bipush 48, 2), (3, .if_icmp .lt 13, 3), (6, .iload_n 0, 1), (7, .bipush 57, 2), (9, .if_icmp .gt 7, 3), (12, .iconst 1, 1), (13, .goto 4, 3), (16, .iconst 0, 1), (17, .ireturn, 1)]
set_option maxRecDepth 100000 in
theorem M_isDigit_d : ax_T M_isDigit_c M_isDigit_t := by unfold ax_T; decide +kernel
abbrev M_partOf_c : ByteArray := prog_15_method_35_code
def M_partOf_y : MethodName := ⟨"NumberFunctionsModel", "partOf", "(IIZ)J"⟩
def M_partOf_t : List (Nat × Instr × Nat) := [(0, .lconst 0, 1), (1, .lstore 4, 2), (3, .lconst 0, 1), (4, .lstore 6, 2), (6, .ldc2_w 211, 3), (9, .lstore 8, 2), (11, .iconst 0, 1), (12, .istore 10, 2), (14, .iconst 0, 1), (15, .istore 11, 2), (17, .aload_n 0, 1), (18, .getfield 62, 3), (21, .iload_n 2, 1), (22, .iaload, 1), (23, .istore 12, 2), (25, .iload 12, 2), (27, .aload_n 0, 1), (28, .getfield 65, 3), (31, .iload_n 2, 1), (32, .iaload, 1), (33, .if_icmp .ge 144, 3), (36, .aload_n 0, 1), (37, .iload_n 1, 1), (38, .iload 12, 2), (40, .invokevirtual 177, 3), (43, .istore 13, 2), (45, .iload 11, 2), (47, .ifCond .ne 10, 3), (50, .iload 13, 2), (52, .bipush 45, 2), (54, .if_icmp .ne 7, 3), (57, .iconst 1, 1), (58, .goto 4, 3), (61, .iconst 0, 1), (62, .istore 11, 2), (64, .iload 10, 2), (66, .ifCond .ne 10, 3), (69, .iload 13, 2), (71, .bipush 46, 2), (73, .if_icmp .ne 7, 3), (76, .iconst 1, 1), (77, .goto 4, 3), (80, .iconst 0, 1), (81, .istore 10, 2), (83, .iload 13, 2), (85, .invokestatic 208, 3), (88, .ifCond .eq 46, 3), (91, .iload 10, 2), (93, .ifCond .ne 41, 3), (96, .lload 4, 2), (98, .ldc2_w 213, 3), (101, .lmul, 1), (102, .iload 13, 2), (104, .i2l, 1), (105, .ladd, 1), (106, .ldc2_w 215, 3), (109, .lsub, 1), (110, .lstore 4, 2), (112, .lload 4, 2), (114, .ldc2_w 217, 3), (117, .lcmp, 1), (118, .ifCond .le 9, 3), (121, .ldc2_w 217, 3), (124, .goto 5, 3), (127, .lload 4, 2), (129, .lstore 4, 2), (131, .goto 40, 3), (134, .iload 13, 2), (136, .invokestatic 208, 3), (139, .ifCond .eq 32, 3), (142, .lload 8, 2), (144, .lconst 1, 1), (145, .lcmp, 1), (146, .ifCond .le 25, 3), (149, .lload 8, 2), (151, .ldc2_w 213, 3), (154, .ldiv, 1), (155, .lstore 8, 2), (157, .lload 6, 2), (159, .lload 8, 2), (161, .iload 13, 2), (163, .bipush 48, 2), (165, .isub, 1), (166, .i2l, 1), (167, .lmul, 1), (168, .ladd, 1), (169, .lstore 6, 2), (171, .iinc 12 1, 3), (174, .goto (-149), 3), (177, .lload 4, 2), (179, .ldc2_w 114, 3), (182, .lmul, 1), (183, .lload 6, 2), (185, .ldc2_w 114, 3), (188, .lmul, 1), (189, .ldc2_w 211, 3), (192, .ldiv, 1), (193, .ladd, 1), (194, .lstore 12, 2), (196, .iload_n 3, 1), (197, .ifCond .ne 8, 3), (200, .lload 4, 2), (202, .goto 16, 3), (205, .iload 11, 2), (207, .ifCond .eq 9, 3), (210, .lload 12, 2), (212, .lneg, 1), (213, .goto 5, 3), (216, .lload 12, 2), (218, .lreturn, 1)]
set_option maxRecDepth 100000 in
theorem M_partOf_d : ax_T M_partOf_c M_partOf_t := by unfold ax_T; decide +kernel
abbrev M_nameOf_c : ByteArray := prog_15_method_38_code
def M_nameOf_y : MethodName := ⟨"NumberFunctionsModel", "nameOf", "(II)I"⟩
def M_nameOf_t : List (Nat × Instr × Nat) := [(0, .iconst 0, 1), (1, .istore_n 3, 1), (2, .iload_n 3, 1), (3, .bipush 36, 2), (5, .if_icmp .ge 24, 3), (8, .aload_n 0, 1), (9, .iload_n 1, 1), (10, .iload_n 2, 1), (11, .iload_n 3, 1), (12, .invokestatic 299, 3), (15, .invokevirtual 188, 3), (18, .ifCond .eq 5, 3), (21, .iload_n 3, 1), (22, .ireturn, 1), (23, .iinc 3 1, 3), (26, .goto (-24), 3), (29, .iconst (-1), 1), (30, .ireturn, 1)]
set_option maxRecDepth 100000 in
theorem M_nameOf_d : ax_T M_nameOf_c M_nameOf_t := by unfold ax_T; decide +kernel
abbrev M_name_c : ByteArray := prog_15_method_37_code
def M_name_y : MethodName := ⟨"NumberFunctionsModel", "name", "(I)Ljava/lang/String;"⟩
def M_name_t : List (Nat × Instr × Nat) := [(0, .iload_n 0, 1), (1, .tableswitch 281 0 34 #[155, 158, 161, 164, 167, 170, 173, 176, 179, 182, 185, 188, 191, 194, 198, 202, 206, 210, 214, 218, 222, 226, 230, 234, 238, 242, 246, 250, 254, 258, 262, 266, 270, 274, 278], 155), (156, .ldc 231, 2), (158, .areturn, 1), (159, .ldc 233, 2), (161, .areturn, 1), (162, .ldc 235, 2), (164, .areturn, 1), (165, .ldc 237, 2), (167, .areturn, 1), (168, .ldc 239, 2), (170, .areturn, 1), (171, .ldc 241, 2), (173, .areturn, 1), (174, .ldc 243, 2), (176, .areturn, 1), (177, .ldc 245, 2), (179, .areturn, 1), (180, .ldc 247, 2), (182, .areturn, 1), (183, .ldc 249, 2), (185, .areturn, 1), (186, .ldc 251, 2), (188, .areturn, 1), (189, .ldc 253, 2), (191, .areturn, 1), (192, .ldc 255, 2), (194, .areturn, 1), (195, .ldc_w 257, 3), (198, .areturn, 1), (199, .ldc_w 259, 3), (202, .areturn, 1), (203, .ldc_w 261, 3), (206, .areturn, 1), (207, .ldc_w 263, 3), (210, .areturn, 1), (211, .ldc_w 265, 3), (214, .areturn, 1), (215, .ldc_w 267, 3), (218, .areturn, 1), (219, .ldc_w 269, 3), (222, .areturn, 1), (223, .ldc_w 271, 3), (226, .areturn, 1), (227, .ldc_w 273, 3), (230, .areturn, 1), (231, .ldc_w 275, 3), (234, .areturn, 1), (235, .ldc_w 277, 3), (238, .areturn, 1), (239, .ldc_w 279, 3), (242, .areturn, 1), (243, .ldc_w 281, 3), (246, .areturn, 1), (247, .ldc_w 283, 3), (250, .areturn, 1), (251, .ldc_w 285, 3), (254, .areturn, 1), (255, .ldc_w 287, 3), (258, .areturn, 1), (259, .ldc_w 289, 3), (262, .areturn, 1), (263, .ldc_w 291, 3), (266, .areturn, 1), (267, .ldc_w 293, 3), (270, .areturn, 1), (271, .ldc_w 295, 3), (274, .areturn, 1), (275, .ldc_w 297, 3), (278, .areturn, 1), (279, .ldc 186, 2), (281, .areturn, 1), (282, .ldc 192, 2), (284, .areturn, 1)]
set_option maxRecDepth 100000 in
theorem M_name_d : ax_T M_name_c M_name_t := by unfold ax_T; decide +kernel
abbrev M_call_c : ByteArray := prog_15_method_39_code
def M_call_y : MethodName := ⟨"NumberFunctionsModel", "call", "(I)I"⟩
def M_call_t : List (Nat × Instr × Nat) := [(0, .aload_n 0, 1), (1, .iload_n 1, 1), (2, .i2l, 1), (3, .lconst 0, 1), (4, .aload_n 0, 1), (5, .getfield 99, 3), (8, .iconst 1, 1), (9, .isub, 1), (10, .i2l, 1), (11, .invokestatic 92, 3), (14, .ifCond .eq 7, 3), (17, .iconst 0, 1), (18, .goto 4, 3), (21, .iconst 1, 1), (22, .invokevirtual 84, 3), (25, .ifCond .eq 5, 3), (28, .iconst 0, 1), (29, .ireturn, 1), (30, .aload_n 0, 1), (31, .iconst (-1), 1), (32, .iconst (-1), 1), (33, .invokevirtual 153, 3), (36, .iload_n 1, 1), (37, .istore_n 2, 1), (38, .aload_n 0, 1), (39, .getfield 17, 3), (42, .iconst 0, 1), (43, .iaload, 1), (44, .i2l, 1), (45, .lstore_n 3, 1), (46, .aload_n 0, 1), (47, .getfield 30, 3), (50, .iload_n 2, 1), (51, .iaload, 1), (52, .iconst 3, 1), (53, .if_icmp .ne 18, 3), (56, .aload_n 0, 1), (57, .iload_n 2, 1), (58, .lload_n 3, 1), (59, .invokevirtual 303, 3), (62, .lstore_n 3, 1), (63, .aload_n 0, 1), (64, .getfield 307, 3), (67, .istore_n 2, 1), (68, .goto (-22), 3), (71, .aload_n 0, 1), (72, .getfield 30, 3), (75, .iload_n 2, 1), (76, .iaload, 1), (77, .ifCond .ne 12, 3), (80, .aload_n 0, 1), (81, .iload_n 2, 1), (82, .lload_n 3, 1), (83, .invokevirtual 310, 3), (86, .goto 28, 3), (89, .aload_n 0, 1), (90, .getfield 30, 3), (93, .iload_n 2, 1), (94, .iaload, 1), (95, .iconst 2, 1), (96, .if_icmp .ne 12, 3), (99, .aload_n 0, 1), (100, .iload_n 2, 1), (101, .lload_n 3, 1), (102, .invokevirtual 314, 3), (105, .goto 9, 3), (108, .aload_n 0, 1), (109, .iload_n 2, 1), (110, .lload_n 3, 1), (111, .invokevirtual 317, 3), (114, .aload_n 0, 1), (115, .getfield 23, 3), (118, .iconst (-1), 1), (119, .if_icmp .eq 5, 3), (122, .iconst (-1), 1), (123, .ireturn, 1), (124, .iconst 0, 1), (125, .istore 5, 2), (127, .iload 5, 2), (129, .iconst 4, 1), (130, .if_icmp .ge 39, 3), (133, .aload_n 0, 1), (134, .getfield 20, 3), (137, .iload 5, 2), (139, .iload 5, 2), (141, .aload_n 0, 1), (142, .getfield 36, 3), (145, .iload_n 1, 1), (146, .iaload, 1), (147, .if_icmp .ge 14, 3), (150, .aload_n 0, 1), (151, .getfield 59, 3), (154, .iload 5, 2), (156, .laload, 1), (157, .l2i, 1), (158, .goto 4, 3), (161, .iconst 0, 1), (162, .iastore, 1), (163, .iinc 5 1, 3), (166, .goto (-39), 3), (169, .aload_n 0, 1), (170, .getfield 36, 3), (173, .iload_n 1, 1), (174, .iaload, 1), (175, .ireturn, 1)]
set_option maxRecDepth 100000 in
theorem M_call_d : ax_T M_call_c M_call_t := by unfold ax_T; decide +kernel
abbrev M_stitched_c : ByteArray := prog_15_method_42_code
def M_stitched_y : MethodName := ⟨"NumberFunctionsModel", "stitched", "(IJ)J"⟩
def M_stitched_t : List (Nat × Instr × Nat) := [(0, .aload_n 0, 1), (1, .iload_n 1, 1), (2, .iconst 2, 1), (3, .invokevirtual 320, 3), (6, .l2i, 1), (7, .istore 4, 2), (9, .lload_n 2, 1), (10, .aload_n 0, 1), (11, .iload_n 1, 1), (12, .iconst 0, 1), (13, .invokevirtual 320, 3), (16, .aload_n 0, 1), (17, .iload_n 1, 1), (18, .iconst 1, 1), (19, .invokevirtual 320, 3), (22, .invokestatic 104, 3), (25, .lstore 5, 2), (27, .iconst 0, 1), (28, .istore 7, 2), (30, .iload 7, 2), (32, .iload 4, 2), (34, .iconst 1, 1), (35, .isub, 1), (36, .if_icmp .ge 27, 3), (39, .aload_n 0, 1), (40, .iload_n 1, 1), (41, .iconst 3, 1), (42, .iload 4, 2), (44, .iadd, 1), (45, .iload 7, 2), (47, .iadd, 1), (48, .invokevirtual 320, 3), (51, .lload 5, 2), (53, .lcmp, 1), (54, .ifCond .gt 9, 3), (57, .iinc 7 1, 3), (60, .goto (-30), 3), (63, .iload 7, 2), (65, .ifCond .ne 12, 3), (68, .aload_n 0, 1), (69, .iload_n 1, 1), (70, .iconst 0, 1), (71, .invokevirtual 320, 3), (74, .goto 15, 3), (77, .aload_n 0, 1), (78, .iload_n 1, 1), (79, .iconst 2, 1), (80, .iload 4, 2), (82, .iadd, 1), (83, .iload 7, 2), (85, .iadd, 1), (86, .invokevirtual 320, 3), (89, .lstore 8, 2), (91, .iload 7, 2), (93, .iload 4, 2), (95, .iconst 1, 1), (96, .isub, 1), (97, .if_icmp .ne 12, 3), (100, .aload_n 0, 1), (101, .iload_n 1, 1), (102, .iconst 1, 1), (103, .invokevirtual 320, 3), (106, .goto 15, 3), (109, .aload_n 0, 1), (110, .iload_n 1, 1), (111, .iconst 3, 1), (112, .iload 4, 2), (114, .iadd, 1), (115, .iload 7, 2), (117, .iadd, 1), (118, .invokevirtual 320, 3), (121, .lstore 10, 2), (123, .aload_n 0, 1), (124, .aload_n 0, 1), (125, .iload_n 1, 1), (126, .iconst 3, 1), (127, .iload 7, 2), (129, .iadd, 1), (130, .invokevirtual 320, 3), (133, .l2i, 1), (134, .putfield 307, 3), (137, .iconst 2, 1), (138, .iconst 2, 1), (139, .iload 4, 2), (141, .imul, 1), (142, .iadd, 1), (143, .iconst 2, 1), (144, .iload 7, 2), (146, .imul, 1), (147, .iadd, 1), (148, .istore 12, 2), (150, .lload 5, 2), (152, .lload 8, 2), (154, .lload 10, 2), (156, .aload_n 0, 1), (157, .iload_n 1, 1), (158, .iload 12, 2), (160, .invokevirtual 320, 3), (163, .aload_n 0, 1), (164, .iload_n 1, 1), (165, .iload 12, 2), (167, .iconst 1, 1), (168, .iadd, 1), (169, .invokevirtual 320, 3), (172, .invokestatic 324, 3), (175, .lreturn, 1)]
set_option maxRecDepth 100000 in
theorem M_stitched_d : ax_T M_stitched_c M_stitched_t := by unfold ax_T; decide +kernel
abbrev M_of_c : ByteArray := prog_15_method_40_code
def M_of_y : MethodName := ⟨"NumberFunctionsModel", "of", "(II)J"⟩
def M_of_t : List (Nat × Instr × Nat) := [(0, .aload_n 0, 1), (1, .getfield 39, 3), (4, .bipush 96, 2), (6, .iload_n 1, 1), (7, .imul, 1), (8, .iload_n 2, 1), (9, .iadd, 1), (10, .iaload, 1), (11, .i2l, 1), (12, .lreturn, 1)]
set_option maxRecDepth 100000 in
theorem M_of_d : ax_T M_of_c M_of_t := by unfold ax_T; decide +kernel
abbrev M_cutTo_c : ByteArray := prog_15_method_13_code
def M_cutTo_y : MethodName := ⟨"NumberFunctionsModel", "cutTo", "(JJJ)J"⟩
def M_cutTo_t : List (Nat × Instr × Nat) := [(0, .lload_n 0, 1), (1, .lload_n 2, 1), (2, .lcmp, 1), (3, .ifCond .ge 7, 3), (6, .lload_n 2, 1), (7, .goto 16, 3), (10, .lload_n 0, 1), (11, .lload 4, 2), (13, .lcmp, 1), (14, .ifCond .le 8, 3), (17, .lload 4, 2), (19, .goto 4, 3), (22, .lload_n 0, 1), (23, .lreturn, 1)]
set_option maxRecDepth 100000 in
theorem M_cutTo_d : ax_T M_cutTo_c M_cutTo_t := by unfold ax_T; decide +kernel
abbrev M_laid_c : ByteArray := prog_15_method_17_code
def M_laid_y : MethodName := ⟨"NumberFunctionsModel", "laid", "(JJJJJ)J"⟩
def M_laid_t : List (Nat × Instr × Nat) := [(0, .lload_n 2, 1), (1, .lload 4, 2), (3, .lcmp, 1), (4, .ifCond .ne 8, 3), (7, .lload 6, 2), (9, .goto 25, 3), (12, .lload 6, 2), (14, .lload_n 0, 1), (15, .lload_n 2, 1), (16, .lsub, 1), (17, .lload 8, 2), (19, .lload 6, 2), (21, .lsub, 1), (22, .lmul, 1), (23, .lload 4, 2), (25, .lload_n 2, 1), (26, .lsub, 1), (27, .invokestatic 116, 3), (30, .ladd, 1), (31, .invokestatic 119, 3), (34, .lreturn, 1)]
set_option maxRecDepth 100000 in
theorem M_laid_d : ax_T M_laid_c M_laid_t := by unfold ax_T; decide +kernel
abbrev M_down_c : ByteArray := prog_15_method_15_code
def M_down_y : MethodName := ⟨"NumberFunctionsModel", "down", "(JJ)J"⟩
def M_down_t : List (Nat × Instr × Nat) := [(0, .lload_n 0, 1), (1, .lload_n 2, 1), (2, .invokestatic 108, 3), (5, .lreturn, 1)]
set_option maxRecDepth 100000 in
theorem M_down_d : ax_T M_down_c M_down_t := by unfold ax_T; decide +kernel
abbrev M_kept_c : ByteArray := prog_15_method_14_code
def M_kept_y : MethodName := ⟨"NumberFunctionsModel", "kept", "(J)J"⟩
def M_kept_t : List (Nat × Instr × Nat) := [(0, .lload_n 0, 1), (1, .ldc2_w 88, 3), (4, .ldc2_w 90, 3), (7, .invokestatic 104, 3), (10, .lreturn, 1)]
set_option maxRecDepth 100000 in
theorem M_kept_d : ax_T M_kept_c M_kept_t := by unfold ax_T; decide +kernel
abbrev M_samples_c : ByteArray := prog_15_method_45_code
def M_samples_y : MethodName := ⟨"NumberFunctionsModel", "samples", "(IJ)V"⟩
def M_samples_t : List (Nat × Instr × Nat) := [(0, .aload_n 0, 1), (1, .getfield 33, 3), (4, .iload_n 1, 1), (5, .iaload, 1), (6, .istore 4, 2), (8, .aload_n 0, 1), (9, .iload_n 1, 1), (10, .iconst 5, 1), (11, .iload 4, 2), (13, .imul, 1), (14, .invokevirtual 320, 3), (17, .l2i, 1), (18, .istore 5, 2), (20, .iconst 0, 1), (21, .istore 6, 2), (23, .iload 6, 2), (25, .iload 4, 2), (27, .if_icmp .ge 130, 3), (30, .aload_n 0, 1), (31, .iload_n 1, 1), (32, .iconst 5, 1), (33, .iload 6, 2), (35, .imul, 1), (36, .invokevirtual 320, 3), (39, .lstore 7, 2), (41, .aload_n 0, 1), (42, .iload_n 1, 1), (43, .iconst 5, 1), (44, .iload 6, 2), (46, .imul, 1), (47, .iconst 1, 1), (48, .iadd, 1), (49, .invokevirtual 320, 3), (52, .lstore 9, 2), (54, .aload_n 0, 1), (55, .iload 6, 2), (57, .lload_n 2, 1), (58, .invokevirtual 331, 3), (61, .lload 7, 2), (63, .lload 9, 2), (65, .invokestatic 104, 3), (68, .lload 7, 2), (70, .lload 9, 2), (72, .aload_n 0, 1), (73, .iload_n 1, 1), (74, .iconst 5, 1), (75, .iload 6, 2), (77, .imul, 1), (78, .iconst 3, 1), (79, .iadd, 1), (80, .invokevirtual 320, 3), (83, .aload_n 0, 1), (84, .iload_n 1, 1), (85, .iconst 5, 1), (86, .iload 6, 2), (88, .imul, 1), (89, .iconst 4, 1), (90, .iadd, 1), (91, .invokevirtual 320, 3), (94, .invokestatic 324, 3), (97, .lstore 11, 2), (99, .lload 11, 2), (101, .lconst 0, 1), (102, .aload_n 0, 1), (103, .iload_n 1, 1), (104, .iconst 5, 1), (105, .iload 6, 2), (107, .imul, 1), (108, .iconst 2, 1), (109, .iadd, 1), (110, .invokevirtual 320, 3), (113, .lconst 1, 1), (114, .lsub, 1), (115, .ldc2_w 114, 3), (118, .lmul, 1), (119, .invokestatic 104, 3), (122, .lstore 11, 2), (124, .aload_n 0, 1), (125, .getfield 53, 3), (128, .iload 6, 2), (130, .lload 11, 2), (132, .ldc2_w 114, 3), (135, .ldiv, 1), (136, .l2i, 1), (137, .iastore, 1), (138, .aload_n 0, 1), (139, .getfield 56, 3), (142, .iload 6, 2), (144, .lload 11, 2), (146, .ldc2_w 114, 3), (149, .lrem, 1), (150, .lastore, 1), (151, .iinc 6 1, 3), (154, .goto (-131), 3), (157, .iconst 0, 1), (158, .istore 6, 2), (160, .iload 6, 2), (162, .aload_n 0, 1), (163, .getfield 36, 3), (166, .iload_n 1, 1), (167, .iaload, 1), (168, .if_icmp .ge 34, 3), (171, .aload_n 0, 1), (172, .getfield 59, 3), (175, .iload 6, 2), (177, .aload_n 0, 1), (178, .iload_n 1, 1), (179, .iload 6, 2), (181, .aload_n 0, 1), (182, .iload_n 1, 1), (183, .iload 6, 2), (185, .iload 5, 2), (187, .invokevirtual 334, 3), (190, .iload 5, 2), (192, .invokevirtual 338, 3), (195, .lastore, 1), (196, .iinc 6 1, 3), (199, .goto (-39), 3), (202, .return_, 1)]
set_option maxRecDepth 100000 in
theorem M_samples_d : ax_T M_samples_c M_samples_t := by unfold ax_T; decide +kernel
abbrev M_inputOf_c : ByteArray := prog_15_method_41_code
def M_inputOf_y : MethodName := ⟨"NumberFunctionsModel", "inputOf", "(IJ)J"⟩
def M_inputOf_t : List (Nat × Instr × Nat) := [(0, .iload_n 1, 1), (1, .ifCond .ne 7, 3), (4, .lload_n 2, 1), (5, .goto 10, 3), (8, .aload_n 0, 1), (9, .getfield 17, 3), (12, .iload_n 1, 1), (13, .iaload, 1), (14, .i2l, 1), (15, .lreturn, 1)]
set_option maxRecDepth 100000 in
theorem M_inputOf_d : ax_T M_inputOf_c M_inputOf_t := by unfold ax_T; decide +kernel
abbrev M_interpolated_c : ByteArray := prog_15_method_47_code
def M_interpolated_y : MethodName := ⟨"NumberFunctionsModel", "interpolated", "(III)J"⟩
def M_interpolated_t : List (Nat × Instr × Nat) := [(0, .aload_n 0, 1), (1, .getfield 33, 3), (4, .iload_n 1, 1), (5, .iaload, 1), (6, .istore 4, 2), (8, .iconst 0, 1), (9, .istore 5, 2), (11, .iload 5, 2), (13, .iconst 1, 1), (14, .iload 4, 2), (16, .ishl, 1), (17, .if_icmp .ge 120, 3), (20, .lconst 0, 1), (21, .lstore 6, 2), (23, .lconst 1, 1), (24, .lstore 8, 2), (26, .iconst 0, 1), (27, .istore 10, 2), (29, .iload 10, 2), (31, .iload 4, 2), (33, .if_icmp .ge 72, 3), (36, .aload_n 0, 1), (37, .iload_n 1, 1), (38, .iconst 5, 1), (39, .iload 10, 2), (41, .imul, 1), (42, .iconst 2, 1), (43, .iadd, 1), (44, .invokevirtual 320, 3), (47, .lstore 11, 2), (49, .aload_n 0, 1), (50, .getfield 53, 3), (53, .iload 10, 2), (55, .iaload, 1), (56, .iload 5, 2), (58, .iload 10, 2), (60, .ishr, 1), (61, .iconst 1, 1), (62, .iand, 1), (63, .iadd, 1), (64, .i2l, 1), (65, .lstore 13, 2), (67, .lload 6, 2), (69, .lload 8, 2), (71, .lload 13, 2), (73, .lload 11, 2), (75, .lcmp, 1), (76, .ifCond .ge 8, 3), (79, .lload 13, 2), (81, .goto 7, 3), (84, .lload 11, 2), (86, .lconst 1, 1), (87, .lsub, 1), (88, .lmul, 1), (89, .ladd, 1), (90, .lstore 6, 2), (92, .lload 8, 2), (94, .lload 11, 2), (96, .lmul, 1), (97, .lstore 8, 2), (99, .iinc 10 1, 3), (102, .goto (-73), 3), (105, .aload_n 0, 1), (106, .getfield 49, 3), (109, .iload 5, 2), (111, .aload_n 0, 1), (112, .iload_n 1, 1), (113, .lload 6, 2), (115, .aload_n 0, 1), (116, .getfield 36, 3), (119, .iload_n 1, 1), (120, .iaload, 1), (121, .i2l, 1), (122, .lmul, 1), (123, .iload_n 2, 1), (124, .i2l, 1), (125, .ladd, 1), (126, .iload_n 3, 1), (127, .invokevirtual 342, 3), (130, .lastore, 1), (131, .iinc 5 1, 3), (134, .goto (-123), 3), (137, .iconst 0, 1), (138, .istore 5, 2), (140, .iload 5, 2), (142, .iload 4, 2), (144, .if_icmp .ge 81, 3), (147, .iconst 0, 1), (148, .istore 6, 2), (150, .iload 6, 2), (152, .iconst 1, 1), (153, .iload 4, 2), (155, .iconst 1, 1), (156, .isub, 1), (157, .iload 5, 2), (159, .isub, 1), (160, .ishl, 1), (161, .if_icmp .ge 58, 3), (164, .aload_n 0, 1), (165, .getfield 49, 3), (168, .iconst 2, 1), (169, .iload 6, 2), (171, .imul, 1), (172, .laload, 1), (173, .lstore 7, 2), (175, .aload_n 0, 1), (176, .getfield 49, 3), (179, .iload 6, 2), (181, .lload 7, 2), (183, .aload_n 0, 1), (184, .getfield 49, 3), (187, .iconst 2, 1), (188, .iload 6, 2), (190, .imul, 1), (191, .iconst 1, 1), (192, .iadd, 1), (193, .laload, 1), (194, .lload 7, 2), (196, .lsub, 1), (197, .aload_n 0, 1), (198, .getfield 56, 3), (201, .iload 5, 2), (203, .laload, 1), (204, .lmul, 1), (205, .ldc2_w 114, 3), (208, .invokestatic 116, 3), (211, .ladd, 1), (212, .lastore, 1), (213, .iinc 6 1, 3), (216, .goto (-66), 3), (219, .iinc 5 1, 3), (222, .goto (-82), 3), (225, .aload_n 0, 1), (226, .getfield 49, 3), (229, .iconst 0, 1), (230, .laload, 1), (231, .lreturn, 1)]
set_option maxRecDepth 100000 in
theorem M_interpolated_d : ax_T M_interpolated_c M_interpolated_t := by unfold ax_T; decide +kernel
abbrev M_sampleAt_c : ByteArray := prog_15_method_44_code
def M_sampleAt_y : MethodName := ⟨"NumberFunctionsModel", "sampleAt", "(IJI)J"⟩
def M_sampleAt_t : List (Nat × Instr × Nat) := [(0, .lconst 0, 1), (1, .lstore 5, 2), (3, .lload_n 2, 1), (4, .iload 4, 2), (6, .i2l, 1), (7, .lmul, 1), (8, .lstore 7, 2), (10, .lload 7, 2), (12, .lload_n 2, 1), (13, .lconst 1, 1), (14, .ladd, 1), (15, .iload 4, 2), (17, .i2l, 1), (18, .lmul, 1), (19, .lcmp, 1), (20, .ifCond .ge 46, 3), (23, .lload 5, 2), (25, .iconst 1, 1), (26, .lshl, 1), (27, .aload_n 0, 1), (28, .iload_n 1, 1), (29, .lload 7, 2), (31, .ldc2_w 132, 3), (34, .ldiv, 1), (35, .l2i, 1), (36, .invokevirtual 177, 3), (39, .ldc2_w 147, 3), (42, .lload 7, 2), (44, .ldc2_w 132, 3), (47, .lrem, 1), (48, .lsub, 1), (49, .l2i, 1), (50, .ishr, 1), (51, .iconst 1, 1), (52, .iand, 1), (53, .i2l, 1), (54, .lor, 1), (55, .lstore 5, 2), (57, .lload 7, 2), (59, .lconst 1, 1), (60, .ladd, 1), (61, .lstore 7, 2), (63, .goto (-53), 3), (66, .lload 5, 2), (68, .ldc2_w 114, 3), (71, .lmul, 1), (72, .lreturn, 1)]
set_option maxRecDepth 100000 in
theorem M_sampleAt_d : ax_T M_sampleAt_c M_sampleAt_t := by unfold ax_T; decide +kernel
abbrev M_decoded_c : ByteArray := prog_15_method_46_code
def M_decoded_y : MethodName := ⟨"NumberFunctionsModel", "decoded", "(IIJI)J"⟩
def M_decoded_t : List (Nat × Instr × Nat) := [(0, .iconst 5, 1), (1, .aload_n 0, 1), (2, .getfield 33, 3), (5, .iload_n 1, 1), (6, .iaload, 1), (7, .imul, 1), (8, .iconst 1, 1), (9, .iadd, 1), (10, .iconst 4, 1), (11, .iload_n 2, 1), (12, .imul, 1), (13, .iadd, 1), (14, .istore 6, 2), (16, .lconst 1, 1), (17, .iload 5, 2), (19, .lshl, 1), (20, .lconst 1, 1), (21, .lsub, 1), (22, .ldc2_w 114, 3), (25, .lmul, 1), (26, .lstore 7, 2), (28, .lload_n 3, 1), (29, .lconst 0, 1), (30, .lload 7, 2), (32, .aload_n 0, 1), (33, .iload_n 1, 1), (34, .iload 6, 2), (36, .iconst 2, 1), (37, .iadd, 1), (38, .invokevirtual 320, 3), (41, .aload_n 0, 1), (42, .iload_n 1, 1), (43, .iload 6, 2), (45, .iconst 3, 1), (46, .iadd, 1), (47, .invokevirtual 320, 3), (50, .invokestatic 324, 3), (53, .lstore 9, 2), (55, .lload 9, 2), (57, .aload_n 0, 1), (58, .iload_n 1, 1), (59, .iload 6, 2), (61, .invokevirtual 320, 3), (64, .aload_n 0, 1), (65, .iload_n 1, 1), (66, .iload 6, 2), (68, .iconst 1, 1), (69, .iadd, 1), (70, .invokevirtual 320, 3), (73, .invokestatic 104, 3), (76, .lreturn, 1)]
set_option maxRecDepth 100000 in
theorem M_decoded_d : ax_T M_decoded_c M_decoded_t := by unfold ax_T; decide +kernel
abbrev M_powers_c : ByteArray := prog_15_method_43_code
def M_powers_y : MethodName := ⟨"NumberFunctionsModel", "powers", "(IJ)V"⟩
def M_powers_t : List (Nat × Instr × Nat) := [(0, .lload_n 2, 1), (1, .aload_n 0, 1), (2, .iload_n 1, 1), (3, .iconst 0, 1), (4, .invokevirtual 320, 3), (7, .aload_n 0, 1), (8, .iload_n 1, 1), (9, .iconst 1, 1), (10, .invokevirtual 320, 3), (13, .invokestatic 104, 3), (16, .lstore 4, 2), (18, .ldc2_w 114, 3), (21, .lstore 6, 2), (23, .iconst 0, 1), (24, .istore 8, 2), (26, .iload 8, 2), (28, .i2l, 1), (29, .aload_n 0, 1), (30, .iload_n 1, 1), (31, .iconst 2, 1), (32, .invokevirtual 320, 3), (35, .lcmp, 1), (36, .ifCond .ge 18, 3), (39, .lload 6, 2), (41, .lload 4, 2), (43, .invokestatic 328, 3), (46, .lstore 6, 2), (48, .iinc 8 1, 3), (51, .goto (-25), 3), (54, .iconst 0, 1), (55, .istore 8, 2), (57, .iload 8, 2), (59, .aload_n 0, 1), (60, .getfield 36, 3), (63, .iload_n 1, 1), (64, .iaload, 1), (65, .if_icmp .ge 57, 3), (68, .aload_n 0, 1), (69, .iload_n 1, 1), (70, .iconst 3, 1), (71, .iconst 2, 1), (72, .iload 8, 2), (74, .imul, 1), (75, .iadd, 1), (76, .invokevirtual 320, 3), (79, .lstore 9, 2), (81, .aload_n 0, 1), (82, .getfield 59, 3), (85, .iload 8, 2), (87, .lload 9, 2), (89, .lload 6, 2), (91, .aload_n 0, 1), (92, .iload_n 1, 1), (93, .iconst 4, 1), (94, .iconst 2, 1), (95, .iload 8, 2), (97, .imul, 1), (98, .iadd, 1), (99, .invokevirtual 320, 3), (102, .lload 9, 2), (104, .lsub, 1), (105, .invokestatic 119, 3), (108, .invokestatic 328, 3), (111, .ladd, 1), (112, .invokestatic 119, 3), (115, .lastore, 1), (116, .iinc 8 1, 3), (119, .goto (-62), 3), (122, .return_, 1)]
set_option maxRecDepth 100000 in
theorem M_powers_d : ax_T M_powers_c M_powers_t := by unfold ax_T; decide +kernel
abbrev M_times_c : ByteArray := prog_15_method_16_code
def M_times_y : MethodName := ⟨"NumberFunctionsModel", "times", "(JJ)J"⟩
def M_times_t : List (Nat × Instr × Nat) := [(0, .lload_n 0, 1), (1, .lload_n 2, 1), (2, .lmul, 1), (3, .ldc2_w 114, 3), (6, .invokestatic 116, 3), (9, .invokestatic 119, 3), (12, .lreturn, 1)]
set_option maxRecDepth 100000 in
theorem M_times_d : ax_T M_times_c M_times_t := by unfold ax_T; decide +kernel
abbrev M_program_c : ByteArray := prog_15_method_58_code
def M_program_y : MethodName := ⟨"NumberFunctionsModel", "program", "(IJ)V"⟩
def M_program_t : List (Nat × Instr × Nat) := [(0, .aload_n 0, 1), (1, .iload_n 1, 1), (2, .invokevirtual 164, 3), (5, .aload_n 0, 1), (6, .iconst 0, 1), (7, .putfield 353, 3), (10, .aload_n 0, 1), (11, .iconst 0, 1), (12, .putfield 373, 3), (15, .iconst 0, 1), (16, .istore 4, 2), (18, .iload 4, 2), (20, .aload_n 0, 1), (21, .getfield 33, 3), (24, .iload_n 1, 1), (25, .iaload, 1), (26, .if_icmp .ge 68, 3), (29, .aload_n 0, 1), (30, .getfield 68, 3), (33, .aload_n 0, 1), (34, .getfield 353, 3), (37, .aload_n 0, 1), (38, .iload 4, 2), (40, .lload_n 2, 1), (41, .invokevirtual 331, 3), (44, .aload_n 0, 1), (45, .iload_n 1, 1), (46, .iconst 2, 1), (47, .iload 4, 2), (49, .imul, 1), (50, .invokevirtual 320, 3), (53, .aload_n 0, 1), (54, .iload_n 1, 1), (55, .iconst 2, 1), (56, .iload 4, 2), (58, .imul, 1), (59, .iconst 1, 1), (60, .iadd, 1), (61, .invokevirtual 320, 3), (64, .invokestatic 104, 3), (67, .lastore, 1), (68, .aload_n 0, 1), (69, .getfield 71, 3), (72, .aload_n 0, 1), (73, .getfield 353, 3), (76, .iconst 0, 1), (77, .bastore, 1), (78, .aload_n 0, 1), (79, .dup, 1), (80, .getfield 353, 3), (83, .iconst 1, 1), (84, .iadd, 1), (85, .putfield 353, 3), (88, .iinc 4 1, 3), (91, .goto (-73), 3), (94, .iconst 1, 1), (95, .istore 4, 2), (97, .iload 4, 2), (99, .aload_n 0, 1), (100, .getfield 174, 3), (103, .if_icmp .ge 22, 3), (106, .aload_n 0, 1), (107, .invokevirtual 349, 3), (110, .ifCond .eq 15, 3), (113, .aload_n 0, 1), (114, .iload_n 1, 1), (115, .iload 4, 2), (117, .invokevirtual 376, 3), (120, .istore 4, 2), (122, .goto (-25), 3), (125, .aload_n 0, 1), (126, .aload_n 0, 1), (127, .getfield 174, 3), (130, .putfield 346, 3), (133, .aload_n 0, 1), (134, .invokevirtual 349, 3), (137, .ifCond .eq 22, 3), (140, .aload_n 0, 1), (141, .getfield 353, 3), (144, .aload_n 0, 1), (145, .getfield 36, 3), (148, .iload_n 1, 1), (149, .iaload, 1), (150, .if_icmp .eq 9, 3), (153, .aload_n 0, 1), (154, .bipush 14, 2), (156, .invokevirtual 356, 3), (159, .iconst 0, 1), (160, .istore 5, 2), (162, .iload 5, 2), (164, .aload_n 0, 1), (165, .getfield 36, 3), (168, .iload_n 1, 1), (169, .iaload, 1), (170, .if_icmp .ge 32, 3), (173, .aload_n 0, 1), (174, .invokevirtual 349, 3), (177, .ifCond .eq 25, 3), (180, .aload_n 0, 1), (181, .getfield 71, 3), (184, .iload 5, 2), (186, .baload, 1), (187, .ifCond .eq 9, 3), (190, .aload_n 0, 1), (191, .bipush 10, 2), (193, .invokevirtual 356, 3), (196, .iinc 5 1, 3), (199, .goto (-37), 3), (202, .iconst 0, 1), (203, .istore 5, 2), (205, .iload 5, 2), (207, .aload_n 0, 1), (208, .getfield 36, 3), (211, .iload_n 1, 1), (212, .iaload, 1), (213, .if_icmp .ge 71, 3), (216, .aload_n 0, 1), (217, .invokevirtual 349, 3), (220, .ifCond .eq 64, 3), (223, .aload_n 0, 1), (224, .getfield 59, 3), (227, .iload 5, 2), (229, .aload_n 0, 1), (230, .getfield 68, 3), (233, .iload 5, 2), (235, .laload, 1), (236, .aload_n 0, 1), (237, .iload_n 1, 1), (238, .iconst 2, 1), (239, .aload_n 0, 1), (240, .getfield 33, 3), (243, .iload_n 1, 1), (244, .iaload, 1), (245, .imul, 1), (246, .iconst 2, 1), (247, .iload 5, 2), (249, .imul, 1), (250, .iadd, 1), (251, .invokevirtual 320, 3), (254, .aload_n 0, 1), (255, .iload_n 1, 1), (256, .iconst 2, 1), (257, .aload_n 0, 1), (258, .getfield 33, 3), (261, .iload_n 1, 1), (262, .iaload, 1), (263, .imul, 1), (264, .iconst 2, 1), (265, .iload 5, 2), (267, .imul, 1), (268, .iadd, 1), (269, .iconst 1, 1), (270, .iadd, 1), (271, .invokevirtual 320, 3), (274, .invokestatic 104, 3), (277, .lastore, 1), (278, .iinc 5 1, 3), (281, .goto (-76), 3), (284, .return_, 1)]
set_option maxRecDepth 100000 in
theorem M_program_d : ax_T M_program_c M_program_t := by unfold ax_T; decide +kernel
abbrev M_isGood_c : ByteArray := prog_15_method_49_code
def M_isGood_y : MethodName := ⟨"NumberFunctionsModel", "isGood", "()Z"⟩
def M_isGood_t : List (Nat × Instr × Nat) := [(0, .aload_n 0, 1), (1, .getfield 23, 3), (4, .iconst (-1), 1), (5, .if_icmp .ne 7, 3), (8, .iconst 1, 1), (9, .goto 4, 3), (12, .iconst 0, 1), (13, .ireturn, 1)]
set_option maxRecDepth 100000 in
theorem M_isGood_d : ax_T M_isGood_c M_isGood_t := by unfold ax_T; decide +kernel
abbrev M_next_c : ByteArray := prog_15_method_59_code
def M_next_y : MethodName := ⟨"NumberFunctionsModel", "next", "(II)I"⟩
def M_next_t : List (Nat × Instr × Nat) := [(0, .aload_n 0, 1), (1, .iload_n 1, 1), (2, .iload_n 2, 1), (3, .ldc_w 371, 3), (6, .invokevirtual 188, 3), (9, .ifCond .eq 35, 3), (12, .aload_n 0, 1), (13, .getfield 373, 3), (16, .ifCond .ne 8, 3), (19, .aload_n 0, 1), (20, .getfield 174, 3), (23, .ireturn, 1), (24, .aload_n 0, 1), (25, .dup, 1), (26, .getfield 373, 3), (29, .iconst 1, 1), (30, .isub, 1), (31, .putfield 373, 3), (34, .aload_n 0, 1), (35, .getfield 75, 3), (38, .aload_n 0, 1), (39, .getfield 373, 3), (42, .iaload, 1), (43, .ireturn, 1), (44, .aload_n 0, 1), (45, .iload_n 1, 1), (46, .iload_n 2, 1), (47, .ldc_w 369, 3), (50, .invokevirtual 188, 3), (53, .ifCond .eq 10, 3), (56, .aload_n 0, 1), (57, .iload_n 1, 1), (58, .iload_n 2, 1), (59, .invokevirtual 379, 3), (62, .ireturn, 1), (63, .aload_n 0, 1), (64, .iload_n 2, 1), (65, .putfield 346, 3), (68, .aload_n 0, 1), (69, .iload_n 1, 1), (70, .iload_n 2, 1), (71, .invokevirtual 219, 3), (74, .ifCond .eq 17, 3), (77, .aload_n 0, 1), (78, .aload_n 0, 1), (79, .iload_n 1, 1), (80, .iload_n 2, 1), (81, .iconst 1, 1), (82, .invokevirtual 222, 3), (85, .invokevirtual 382, 3), (88, .goto 13, 3), (91, .aload_n 0, 1), (92, .aload_n 0, 1), (93, .iload_n 1, 1), (94, .iload_n 2, 1), (95, .invokevirtual 228, 3), (98, .invokevirtual 386, 3), (101, .iload_n 2, 1), (102, .iconst 1, 1), (103, .iadd, 1), (104, .ireturn, 1)]
set_option maxRecDepth 100000 in
theorem M_next_d : ax_T M_next_c M_next_t := by unfold ax_T; decide +kernel
end
section
abbrev M_choose_c : ByteArray := prog_15_method_60_code
def M_choose_y : MethodName := ⟨"NumberFunctionsModel", "choose", "(II)I"⟩
def M_choose_t : List (Nat × Instr × Nat) := [(0, .aload_n 0, 1), (1, .iload_n 1, 1), (2, .iload_n 2, 1), (3, .invokevirtual 389, 3), (6, .istore_n 3, 1), (7, .aload_n 0, 1), (8, .iload_n 1, 1), (9, .iload_n 3, 1), (10, .iconst 1, 1), (11, .iadd, 1), (12, .ldc 186, 2), (14, .invokevirtual 188, 3), (17, .istore 4, 2), (19, .iload 4, 2), (21, .ifCond .eq 7, 3), (24, .iload_n 3, 1), (25, .goto 11, 3), (28, .aload_n 0, 1), (29, .iload_n 1, 1), (30, .iload_n 3, 1), (31, .iconst 1, 1), (32, .iadd, 1), (33, .invokevirtual 389, 3), (36, .istore 5, 2), (38, .aload_n 0, 1), (39, .iload 5, 2), (41, .iconst 1, 1), (42, .iadd, 1), (43, .putfield 346, 3), (46, .aload_n 0, 1), (47, .iconst 1, 1), (48, .invokevirtual 363, 3), (51, .ifCond .eq 23, 3), (54, .aload_n 0, 1), (55, .getfield 71, 3), (58, .aload_n 0, 1), (59, .getfield 353, 3), (62, .iconst 1, 1), (63, .isub, 1), (64, .baload, 1), (65, .ifCond .ne 9, 3), (68, .aload_n 0, 1), (69, .bipush 10, 2), (71, .invokevirtual 356, 3), (74, .aload_n 0, 1), (75, .invokevirtual 349, 3), (78, .ifCond .ne 8, 3), (81, .aload_n 0, 1), (82, .getfield 174, 3), (85, .ireturn, 1), (86, .aload_n 0, 1), (87, .invokevirtual 392, 3), (90, .lconst 1, 1), (91, .lcmp, 1), (92, .ifCond .ne 7, 3), (95, .iconst 1, 1), (96, .goto 4, 3), (99, .iconst 0, 1), (100, .istore 6, 2), (102, .aload_n 0, 1), (103, .getfield 75, 3), (106, .aload_n 0, 1), (107, .getfield 373, 3), (110, .iload 5, 2), (112, .iconst 2, 1), (113, .iadd, 1), (114, .iastore, 1), (115, .iload 6, 2), (117, .ifCond .ne 8, 3), (120, .iload 4, 2), (122, .ifCond .ne 13, 3), (125, .aload_n 0, 1), (126, .dup, 1), (127, .getfield 373, 3), (130, .iconst 1, 1), (131, .iadd, 1), (132, .putfield 373, 3), (135, .iload 6, 2), (137, .ifCond .eq 9, 3), (140, .iload_n 2, 1), (141, .iconst 1, 1), (142, .iadd, 1), (143, .goto 18, 3), (146, .iload 4, 2), (148, .ifCond .eq 10, 3), (151, .iload 5, 2), (153, .iconst 2, 1), (154, .iadd, 1), (155, .goto 6, 3), (158, .iload_n 3, 1), (159, .iconst 2, 1), (160, .iadd, 1), (161, .ireturn, 1)]
set_option maxRecDepth 100000 in
theorem M_choose_d : ax_T M_choose_c M_choose_t := by unfold ax_T; decide +kernel
abbrev M_matchOf_c : ByteArray := prog_15_method_57_code
def M_matchOf_y : MethodName := ⟨"NumberFunctionsModel", "matchOf", "(II)I"⟩
def M_matchOf_t : List (Nat × Instr × Nat) := [(0, .iconst 0, 1), (1, .istore_n 3, 1), (2, .iload_n 2, 1), (3, .istore 4, 2), (5, .iconst 1, 1), (6, .istore 5, 2), (8, .iload 5, 2), (10, .ifCond .eq 60, 3), (13, .aload_n 0, 1), (14, .iload_n 1, 1), (15, .iload 4, 2), (17, .ldc_w 369, 3), (20, .invokevirtual 188, 3), (23, .ifCond .eq 9, 3), (26, .iload_n 3, 1), (27, .iconst 1, 1), (28, .iadd, 1), (29, .goto 23, 3), (32, .aload_n 0, 1), (33, .iload_n 1, 1), (34, .iload 4, 2), (36, .ldc_w 371, 3), (39, .invokevirtual 188, 3), (42, .ifCond .eq 9, 3), (45, .iload_n 3, 1), (46, .iconst 1, 1), (47, .isub, 1), (48, .goto 4, 3), (51, .iload_n 3, 1), (52, .istore_n 3, 1), (53, .iload_n 3, 1), (54, .ifCond .le 7, 3), (57, .iconst 1, 1), (58, .goto 4, 3), (61, .iconst 0, 1), (62, .istore 5, 2), (64, .iinc 4 1, 3), (67, .goto (-59), 3), (70, .iload 4, 2), (72, .iconst 1, 1), (73, .isub, 1), (74, .ireturn, 1)]
set_option maxRecDepth 100000 in
theorem M_matchOf_d : ax_T M_matchOf_c M_matchOf_t := by unfold ax_T; decide +kernel
abbrev M_has_c : ByteArray := prog_15_method_53_code
def M_has_y : MethodName := ⟨"NumberFunctionsModel", "has", "(I)Z"⟩
def M_has_t : List (Nat × Instr × Nat) := [(0, .aload_n 0, 1), (1, .invokevirtual 349, 3), (4, .ifCond .eq 17, 3), (7, .aload_n 0, 1), (8, .getfield 353, 3), (11, .iload_n 1, 1), (12, .if_icmp .ge 9, 3), (15, .aload_n 0, 1), (16, .bipush 9, 2), (18, .invokevirtual 356, 3), (21, .aload_n 0, 1), (22, .invokevirtual 349, 3), (25, .ireturn, 1)]
set_option maxRecDepth 100000 in
theorem M_has_d : ax_T M_has_c M_has_t := by unfold ax_T; decide +kernel
abbrev M_fail_c : ByteArray := prog_15_method_48_code
def M_fail_y : MethodName := ⟨"NumberFunctionsModel", "fail", "(I)V"⟩
def M_fail_t : List (Nat × Instr × Nat) := [(0, .aload_n 0, 1), (1, .getfield 23, 3), (4, .iconst (-1), 1), (5, .if_icmp .ne 12, 3), (8, .aload_n 0, 1), (9, .iload_n 1, 1), (10, .aload_n 0, 1), (11, .getfield 346, 3), (14, .invokevirtual 153, 3), (17, .return_, 1)]
set_option maxRecDepth 100000 in
theorem M_fail_d : ax_T M_fail_c M_fail_t := by unfold ax_T; decide +kernel
abbrev M_take_c : ByteArray := prog_15_method_56_code
def M_take_y : MethodName := ⟨"NumberFunctionsModel", "take", "()J"⟩
def M_take_t : List (Nat × Instr × Nat) := [(0, .aload_n 0, 1), (1, .dup, 1), (2, .getfield 353, 3), (5, .iconst 1, 1), (6, .isub, 1), (7, .putfield 353, 3), (10, .aload_n 0, 1), (11, .getfield 68, 3), (14, .aload_n 0, 1), (15, .getfield 353, 3), (18, .laload, 1), (19, .lreturn, 1)]
set_option maxRecDepth 100000 in
theorem M_take_d : ax_T M_take_c M_take_t := by unfold ax_T; decide +kernel
abbrev M_putNumber_c : ByteArray := prog_15_method_51_code
def M_putNumber_y : MethodName := ⟨"NumberFunctionsModel", "putNumber", "(J)V"⟩
def M_putNumber_t : List (Nat × Instr × Nat) := [(0, .aload_n 0, 1), (1, .lload_n 1, 1), (2, .iconst 0, 1), (3, .invokevirtual 359, 3), (6, .return_, 1)]
set_option maxRecDepth 100000 in
theorem M_putNumber_d : ax_T M_putNumber_c M_putNumber_t := by unfold ax_T; decide +kernel
abbrev M_put_c : ByteArray := prog_15_method_50_code
def M_put_y : MethodName := ⟨"NumberFunctionsModel", "put", "(JZ)V"⟩
def M_put_t : List (Nat × Instr × Nat) := [(0, .aload_n 0, 1), (1, .invokevirtual 349, 3), (4, .ifCond .eq 18, 3), (7, .aload_n 0, 1), (8, .getfield 353, 3), (11, .bipush 60, 2), (13, .if_icmp .ne 9, 3), (16, .aload_n 0, 1), (17, .bipush 8, 2), (19, .invokevirtual 356, 3), (22, .aload_n 0, 1), (23, .invokevirtual 349, 3), (26, .ifCond .eq 44, 3), (29, .aload_n 0, 1), (30, .getfield 68, 3), (33, .aload_n 0, 1), (34, .getfield 353, 3), (37, .iload_n 3, 1), (38, .ifCond .eq 7, 3), (41, .lload_n 1, 1), (42, .goto 7, 3), (45, .lload_n 1, 1), (46, .invokestatic 119, 3), (49, .lastore, 1), (50, .aload_n 0, 1), (51, .getfield 71, 3), (54, .aload_n 0, 1), (55, .getfield 353, 3), (58, .iload_n 3, 1), (59, .bastore, 1), (60, .aload_n 0, 1), (61, .dup, 1), (62, .getfield 353, 3), (65, .iconst 1, 1), (66, .iadd, 1), (67, .putfield 353, 3), (70, .return_, 1)]
set_option maxRecDepth 100000 in
theorem M_put_d : ax_T M_put_c M_put_t := by unfold ax_T; decide +kernel
abbrev M_perform_c : ByteArray := prog_15_method_61_code
def M_perform_y : MethodName := ⟨"NumberFunctionsModel", "perform", "(I)V"⟩
def M_perform_t : List (Nat × Instr × Nat) := [(0, .iload_n 1, 1), (1, .bipush 9, 2), (3, .if_icmp .ge 11, 3), (6, .aload_n 0, 1), (7, .iload_n 1, 1), (8, .invokevirtual 396, 3), (11, .goto 50, 3), (14, .iload_n 1, 1), (15, .bipush 15, 2), (17, .if_icmp .ge 11, 3), (20, .aload_n 0, 1), (21, .iload_n 1, 1), (22, .invokevirtual 399, 3), (25, .goto 36, 3), (28, .iload_n 1, 1), (29, .bipush 21, 2), (31, .if_icmp .ge 11, 3), (34, .aload_n 0, 1), (35, .iload_n 1, 1), (36, .invokevirtual 402, 3), (39, .goto 22, 3), (42, .iload_n 1, 1), (43, .bipush 28, 2), (45, .if_icmp .ge 11, 3), (48, .aload_n 0, 1), (49, .iload_n 1, 1), (50, .invokevirtual 405, 3), (53, .goto 8, 3), (56, .aload_n 0, 1), (57, .iload_n 1, 1), (58, .invokevirtual 408, 3), (61, .return_, 1)]
set_option maxRecDepth 100000 in
theorem M_perform_d : ax_T M_perform_c M_perform_t := by unfold ax_T; decide +kernel
abbrev M_one_c : ByteArray := prog_15_method_64_code
def M_one_y : MethodName := ⟨"NumberFunctionsModel", "one", "(I)V"⟩
def M_one_t : List (Nat × Instr × Nat) := [(0, .aload_n 0, 1), (1, .iconst 1, 1), (2, .invokevirtual 366, 3), (5, .ifCond .ne 4, 3), (8, .return_, 1), (9, .aload_n 0, 1), (10, .invokevirtual 392, 3), (13, .lstore_n 2, 1), (14, .iload_n 1, 1), (15, .bipush 8, 2), (17, .if_icmp .ne 16, 3), (20, .lload_n 2, 1), (21, .lconst 0, 1), (22, .lcmp, 1), (23, .ifCond .ge 10, 3), (26, .aload_n 0, 1), (27, .bipush 12, 2), (29, .invokevirtual 356, 3), (32, .return_, 1), (33, .iload_n 1, 1), (34, .tableswitch 153 0 7 #[46, 65, 74, 94, 112, 134, 134, 145], 46), (80, .aload_n 0, 1), (81, .lload_n 2, 1), (82, .lconst 0, 1), (83, .lcmp, 1), (84, .ifCond .ge 8, 3), (87, .lload_n 2, 1), (88, .lneg, 1), (89, .goto 4, 3), (92, .lload_n 2, 1), (93, .invokevirtual 382, 3), (96, .goto 99, 3), (99, .aload_n 0, 1), (100, .lload_n 2, 1), (101, .lneg, 1), (102, .invokevirtual 382, 3), (105, .goto 90, 3), (108, .aload_n 0, 1), (109, .lload_n 2, 1), (110, .lneg, 1), (111, .ldc2_w 114, 3), (114, .invokestatic 116, 3), (117, .lneg, 1), (118, .ldc2_w 114, 3), (121, .lmul, 1), (122, .invokevirtual 382, 3), (125, .goto 70, 3), (128, .aload_n 0, 1), (129, .lload_n 2, 1), (130, .ldc2_w 114, 3), (133, .invokestatic 116, 3), (136, .ldc2_w 114, 3), (139, .lmul, 1), (140, .invokevirtual 382, 3), (143, .goto 52, 3), (146, .aload_n 0, 1), (147, .lload_n 2, 1), (148, .ldc2_w 415, 3), (151, .ladd, 1), (152, .ldc2_w 114, 3), (155, .invokestatic 116, 3), (158, .ldc2_w 114, 3), (161, .lmul, 1), (162, .invokevirtual 382, 3), (165, .goto 30, 3), (168, .aload_n 0, 1), (169, .lload_n 2, 1), (170, .invokestatic 417, 3), (173, .invokevirtual 382, 3), (176, .goto 19, 3), (179, .aload_n 0, 1), (180, .lload_n 2, 1), (181, .invokevirtual 382, 3), (184, .goto 11, 3), (187, .aload_n 0, 1), (188, .lload_n 2, 1), (189, .invokestatic 420, 3), (192, .invokevirtual 382, 3), (195, .return_, 1)]
set_option maxRecDepth 100000 in
theorem M_one_d : ax_T M_one_c M_one_t := by unfold ax_T; decide +kernel
abbrev M_areNumbers_c : ByteArray := prog_15_method_54_code
def M_areNumbers_y : MethodName := ⟨"NumberFunctionsModel", "areNumbers", "(I)Z"⟩
def M_areNumbers_t : List (Nat × Instr × Nat) := [(0, .aload_n 0, 1), (1, .iload_n 1, 1), (2, .invokevirtual 363, 3), (5, .istore_n 2, 1), (6, .iconst 1, 1), (7, .istore_n 3, 1), (8, .iload_n 3, 1), (9, .iload_n 1, 1), (10, .if_icmp .gt 33, 3), (13, .iload_n 2, 1), (14, .ifCond .eq 29, 3), (17, .aload_n 0, 1), (18, .getfield 71, 3), (21, .aload_n 0, 1), (22, .getfield 353, 3), (25, .iload_n 3, 1), (26, .isub, 1), (27, .baload, 1), (28, .ifCond .ne 7, 3), (31, .iconst 1, 1), (32, .goto 4, 3), (35, .iconst 0, 1), (36, .istore_n 2, 1), (37, .iinc 3 1, 3), (40, .goto (-32), 3), (43, .aload_n 0, 1), (44, .invokevirtual 349, 3), (47, .ifCond .eq 13, 3), (50, .iload_n 2, 1), (51, .ifCond .ne 9, 3), (54, .aload_n 0, 1), (55, .bipush 10, 2), (57, .invokevirtual 356, 3), (60, .aload_n 0, 1), (61, .invokevirtual 349, 3), (64, .ireturn, 1)]
set_option maxRecDepth 100000 in
theorem M_areNumbers_d : ax_T M_areNumbers_c M_areNumbers_t := by unfold ax_T; decide +kernel
abbrev M_toZero_c : ByteArray := prog_15_method_63_code
def M_toZero_y : MethodName := ⟨"NumberFunctionsModel", "toZero", "(J)J"⟩
def M_toZero_t : List (Nat × Instr × Nat) := [(0, .lload_n 0, 1), (1, .ldc2_w 114, 3), (4, .ldiv, 1), (5, .ldc2_w 114, 3), (8, .lmul, 1), (9, .lreturn, 1)]
set_option maxRecDepth 100000 in
theorem M_toZero_d : ax_T M_toZero_c M_toZero_t := by unfold ax_T; decide +kernel
abbrev M_rootOf_c : ByteArray := prog_15_method_62_code
def M_rootOf_y : MethodName := ⟨"NumberFunctionsModel", "rootOf", "(J)J"⟩
def M_rootOf_t : List (Nat × Instr × Nat) := [(0, .lconst 0, 1), (1, .lstore_n 2, 1), (2, .ldc2_w 411, 3), (5, .lstore 4, 2), (7, .lload_n 2, 1), (8, .lload 4, 2), (10, .lcmp, 1), (11, .ifCond .ge 44, 3), (14, .lload_n 2, 1), (15, .lload 4, 2), (17, .ladd, 1), (18, .lconst 1, 1), (19, .ladd, 1), (20, .ldc2_w 413, 3), (23, .ldiv, 1), (24, .lstore 6, 2), (26, .lload 6, 2), (28, .lload 6, 2), (30, .lmul, 1), (31, .ldc2_w 114, 3), (34, .ldiv, 1), (35, .lload_n 0, 1), (36, .lcmp, 1), (37, .ifCond .gt 9, 3), (40, .lload 6, 2), (42, .lstore_n 2, 1), (43, .goto 9, 3), (46, .lload 6, 2), (48, .lconst 1, 1), (49, .lsub, 1), (50, .lstore 4, 2), (52, .goto (-45), 3), (55, .lload_n 2, 1), (56, .lreturn, 1)]
set_option maxRecDepth 100000 in
theorem M_rootOf_d : ax_T M_rootOf_c M_rootOf_t := by unfold ax_T; decide +kernel
abbrev M_two_c : ByteArray := prog_15_method_65_code
def M_two_y : MethodName := ⟨"NumberFunctionsModel", "two", "(I)V"⟩
def M_two_t : List (Nat × Instr × Nat) := [(0, .iload_n 1, 1), (1, .bipush 12, 2), (3, .if_icmp .le 11, 3), (6, .aload_n 0, 1), (7, .iconst 2, 1), (8, .invokevirtual 423, 3), (11, .goto 8, 3), (14, .aload_n 0, 1), (15, .iconst 2, 1), (16, .invokevirtual 366, 3), (19, .istore_n 2, 1), (20, .iload_n 2, 1), (21, .ifCond .eq 31, 3), (24, .iload_n 1, 1), (25, .bipush 11, 2), (27, .if_icmp .le 25, 3), (30, .aload_n 0, 1), (31, .getfield 68, 3), (34, .aload_n 0, 1), (35, .getfield 353, 3), (38, .iconst 1, 1), (39, .isub, 1), (40, .laload, 1), (41, .lconst 0, 1), (42, .lcmp, 1), (43, .ifCond .ne 9, 3), (46, .aload_n 0, 1), (47, .bipush 13, 2), (49, .invokevirtual 356, 3), (52, .aload_n 0, 1), (53, .invokevirtual 349, 3), (56, .ifCond .ne 4, 3), (59, .return_, 1), (60, .aload_n 0, 1), (61, .invokevirtual 392, 3), (64, .lstore_n 3, 1), (65, .aload_n 0, 1), (66, .invokevirtual 392, 3), (69, .lstore 5, 2), (71, .iload_n 1, 1), (72, .tableswitch 103 9 13 #[36, 47, 58, 71, 88], 36), (108, .aload_n 0, 1), (109, .lload 5, 2), (111, .lload_n 3, 1), (112, .ladd, 1), (113, .invokevirtual 382, 3), (116, .goto 67, 3), (119, .aload_n 0, 1), (120, .lload 5, 2), (122, .lload_n 3, 1), (123, .lsub, 1), (124, .invokevirtual 382, 3), (127, .goto 56, 3), (130, .aload_n 0, 1), (131, .lload 5, 2), (133, .lload_n 3, 1), (134, .invokestatic 328, 3), (137, .invokevirtual 382, 3), (140, .goto 43, 3), (143, .aload_n 0, 1), (144, .lload 5, 2), (146, .ldc2_w 114, 3), (149, .lmul, 1), (150, .lload_n 3, 1), (151, .invokestatic 116, 3), (154, .invokevirtual 382, 3), (157, .goto 26, 3), (160, .aload_n 0, 1), (161, .lload 5, 2), (163, .lload_n 3, 1), (164, .ldiv, 1), (165, .ldc2_w 114, 3), (168, .lmul, 1), (169, .invokevirtual 382, 3), (172, .goto 11, 3), (175, .aload_n 0, 1), (176, .lload 5, 2), (178, .lload_n 3, 1), (179, .lrem, 1), (180, .invokevirtual 382, 3), (183, .return_, 1)]
set_option maxRecDepth 100000 in
theorem M_two_d : ax_T M_two_c M_two_t := by unfold ax_T; decide +kernel
abbrev M_areWhole_c : ByteArray := prog_15_method_55_code
def M_areWhole_y : MethodName := ⟨"NumberFunctionsModel", "areWhole", "(I)Z"⟩
def M_areWhole_t : List (Nat × Instr × Nat) := [(0, .aload_n 0, 1), (1, .iload_n 1, 1), (2, .invokevirtual 366, 3), (5, .istore_n 2, 1), (6, .iconst 1, 1), (7, .istore_n 3, 1), (8, .iload_n 3, 1), (9, .iload_n 1, 1), (10, .if_icmp .gt 39, 3), (13, .iload_n 2, 1), (14, .ifCond .eq 35, 3), (17, .aload_n 0, 1), (18, .getfield 68, 3), (21, .aload_n 0, 1), (22, .getfield 353, 3), (25, .iload_n 3, 1), (26, .isub, 1), (27, .laload, 1), (28, .ldc2_w 114, 3), (31, .lrem, 1), (32, .lconst 0, 1), (33, .lcmp, 1), (34, .ifCond .ne 7, 3), (37, .iconst 1, 1), (38, .goto 4, 3), (41, .iconst 0, 1), (42, .istore_n 2, 1), (43, .iinc 3 1, 3), (46, .goto (-38), 3), (49, .aload_n 0, 1), (50, .invokevirtual 349, 3), (53, .ifCond .eq 13, 3), (56, .iload_n 2, 1), (57, .ifCond .ne 9, 3), (60, .aload_n 0, 1), (61, .bipush 11, 2), (63, .invokevirtual 356, 3), (66, .aload_n 0, 1), (67, .invokevirtual 349, 3), (70, .ireturn, 1)]
set_option maxRecDepth 100000 in
theorem M_areWhole_d : ax_T M_areWhole_c M_areWhole_t := by unfold ax_T; decide +kernel
abbrev M_compare_c : ByteArray := prog_15_method_66_code
def M_compare_y : MethodName := ⟨"NumberFunctionsModel", "compare", "(I)V"⟩
def M_compare_t : List (Nat × Instr × Nat) := [(0, .iload_n 1, 1), (1, .bipush 17, 2), (3, .if_icmp .ge 7, 3), (6, .iconst 1, 1), (7, .goto 4, 3), (10, .iconst 0, 1), (11, .istore_n 2, 1), (12, .iload_n 2, 1), (13, .ifCond .eq 14, 3), (16, .aload_n 0, 1), (17, .iconst 2, 1), (18, .invokevirtual 363, 3), (21, .ifCond .eq 14, 3), (24, .goto 12, 3), (27, .aload_n 0, 1), (28, .iconst 2, 1), (29, .invokevirtual 366, 3), (32, .ifCond .ne 4, 3), (35, .return_, 1), (36, .iload_n 2, 1), (37, .ifCond .eq 35, 3), (40, .aload_n 0, 1), (41, .getfield 71, 3), (44, .aload_n 0, 1), (45, .getfield 353, 3), (48, .iconst 1, 1), (49, .isub, 1), (50, .baload, 1), (51, .aload_n 0, 1), (52, .getfield 71, 3), (55, .aload_n 0, 1), (56, .getfield 353, 3), (59, .iconst 2, 1), (60, .isub, 1), (61, .baload, 1), (62, .if_icmp .eq 10, 3), (65, .aload_n 0, 1), (66, .bipush 10, 2), (68, .invokevirtual 356, 3), (71, .return_, 1), (72, .aload_n 0, 1), (73, .invokevirtual 392, 3), (76, .lstore_n 3, 1), (77, .aload_n 0, 1), (78, .invokevirtual 392, 3), (81, .lstore 5, 2), (83, .iload_n 1, 1), (84, .tableswitch 131 15 19 #[36, 55, 74, 93, 112], 36), (120, .aload_n 0, 1), (121, .lload 5, 2), (123, .lload_n 3, 1), (124, .lcmp, 1), (125, .ifCond .ne 7, 3), (128, .iconst 1, 1), (129, .goto 4, 3), (132, .iconst 0, 1), (133, .invokevirtual 426, 3), (136, .goto 95, 3), (139, .aload_n 0, 1), (140, .lload 5, 2), (142, .lload_n 3, 1), (143, .lcmp, 1), (144, .ifCond .eq 7, 3), (147, .iconst 1, 1), (148, .goto 4, 3), (151, .iconst 0, 1), (152, .invokevirtual 426, 3), (155, .goto 76, 3), (158, .aload_n 0, 1), (159, .lload 5, 2), (161, .lload_n 3, 1), (162, .lcmp, 1), (163, .ifCond .le 7, 3), (166, .iconst 1, 1), (167, .goto 4, 3), (170, .iconst 0, 1), (171, .invokevirtual 426, 3), (174, .goto 57, 3), (177, .aload_n 0, 1), (178, .lload 5, 2), (180, .lload_n 3, 1), (181, .lcmp, 1), (182, .ifCond .lt 7, 3), (185, .iconst 1, 1), (186, .goto 4, 3), (189, .iconst 0, 1), (190, .invokevirtual 426, 3), (193, .goto 38, 3), (196, .aload_n 0, 1), (197, .lload 5, 2), (199, .lload_n 3, 1), (200, .lcmp, 1), (201, .ifCond .ge 7, 3), (204, .iconst 1, 1), (205, .goto 4, 3), (208, .iconst 0, 1), (209, .invokevirtual 426, 3), (212, .goto 19, 3), (215, .aload_n 0, 1), (216, .lload 5, 2), (218, .lload_n 3, 1), (219, .lcmp, 1), (220, .ifCond .gt 7, 3), (223, .iconst 1, 1), (224, .goto 4, 3), (227, .iconst 0, 1), (228, .invokevirtual 426, 3), (231, .return_, 1)]
set_option maxRecDepth 100000 in
theorem M_compare_d : ax_T M_compare_c M_compare_t := by unfold ax_T; decide +kernel
abbrev M_putTruth_c : ByteArray := prog_15_method_52_code
def M_putTruth_y : MethodName := ⟨"NumberFunctionsModel", "putTruth", "(Z)V"⟩
def M_putTruth_t : List (Nat × Instr × Nat) := [(0, .aload_n 0, 1), (1, .iload_n 1, 1), (2, .ifCond .eq 7, 3), (5, .lconst 1, 1), (6, .goto 4, 3), (9, .lconst 0, 1), (10, .iconst 1, 1), (11, .invokevirtual 359, 3), (14, .return_, 1)]
set_option maxRecDepth 100000 in
theorem M_putTruth_d : ax_T M_putTruth_c M_putTruth_t := by unfold ax_T; decide +kernel
abbrev M_bits_c : ByteArray := prog_15_method_68_code
def M_bits_y : MethodName := ⟨"NumberFunctionsModel", "bits", "(I)V"⟩
def M_bits_t : List (Nat × Instr × Nat) := [(0, .iload_n 1, 1), (1, .bipush 23, 2), (3, .if_icmp .ge 21, 3), (6, .aload_n 0, 1), (7, .iload_n 1, 1), (8, .bipush 21, 2), (10, .if_icmp .ne 7, 3), (13, .iconst 1, 1), (14, .goto 4, 3), (17, .iconst 0, 1), (18, .invokevirtual 426, 3), (21, .goto 34, 3), (24, .iload_n 1, 1), (25, .bipush 26, 2), (27, .if_icmp .ge 11, 3), (30, .aload_n 0, 1), (31, .iload_n 1, 1), (32, .invokevirtual 430, 3), (35, .goto 20, 3), (38, .iload_n 1, 1), (39, .bipush 26, 2), (41, .if_icmp .ne 10, 3), (44, .aload_n 0, 1), (45, .invokevirtual 433, 3), (48, .goto 7, 3), (51, .aload_n 0, 1), (52, .invokevirtual 435, 3), (55, .return_, 1)]
set_option maxRecDepth 100000 in
theorem M_bits_d : ax_T M_bits_c M_bits_t := by unfold ax_T; decide +kernel
abbrev M_join_c : ByteArray := prog_15_method_69_code
def M_join_y : MethodName := ⟨"NumberFunctionsModel", "join", "(I)V"⟩
def M_join_t : List (Nat × Instr × Nat) := [(0, .aload_n 0, 1), (1, .iconst 2, 1), (2, .invokevirtual 363, 3), (5, .ifCond .ne 4, 3), (8, .return_, 1), (9, .aload_n 0, 1), (10, .getfield 71, 3), (13, .aload_n 0, 1), (14, .getfield 353, 3), (17, .iconst 1, 1), (18, .isub, 1), (19, .baload, 1), (20, .ifCond .eq 21, 3), (23, .aload_n 0, 1), (24, .getfield 71, 3), (27, .aload_n 0, 1), (28, .getfield 353, 3), (31, .iconst 2, 1), (32, .isub, 1), (33, .baload, 1), (34, .ifCond .eq 7, 3), (37, .iconst 1, 1), (38, .goto 4, 3), (41, .iconst 0, 1), (42, .istore_n 2, 1), (43, .iload_n 2, 1), (44, .ifCond .eq 34, 3), (47, .aload_n 0, 1), (48, .invokevirtual 392, 3), (51, .lstore_n 3, 1), (52, .aload_n 0, 1), (53, .iload_n 1, 1), (54, .aload_n 0, 1), (55, .invokevirtual 392, 3), (58, .lload_n 3, 1), (59, .invokestatic 438, 3), (62, .lconst 1, 1), (63, .lcmp, 1), (64, .ifCond .ne 7, 3), (67, .iconst 1, 1), (68, .goto 4, 3), (71, .iconst 0, 1), (72, .invokevirtual 426, 3), (75, .goto 41, 3), (78, .aload_n 0, 1), (79, .iconst 2, 1), (80, .invokevirtual 423, 3), (83, .ifCond .eq 33, 3), (86, .aload_n 0, 1), (87, .invokevirtual 392, 3), (90, .ldc2_w 114, 3), (93, .ldiv, 1), (94, .lstore_n 3, 1), (95, .aload_n 0, 1), (96, .iload_n 1, 1), (97, .aload_n 0, 1), (98, .invokevirtual 392, 3), (101, .ldc2_w 114, 3), (104, .ldiv, 1), (105, .lload_n 3, 1), (106, .invokestatic 438, 3), (109, .ldc2_w 114, 3), (112, .lmul, 1), (113, .invokevirtual 382, 3), (116, .return_, 1)]
set_option maxRecDepth 100000 in
theorem M_join_d : ax_T M_join_c M_join_t := by unfold ax_T; decide +kernel
abbrev M_joined_c : ByteArray := prog_15_method_67_code
def M_joined_y : MethodName := ⟨"NumberFunctionsModel", "joined", "(IJJ)J"⟩
def M_joined_t : List (Nat × Instr × Nat) := [(0, .iload_n 0, 1), (1, .bipush 23, 2), (3, .if_icmp .ne 9, 3), (6, .lload_n 1, 1), (7, .lload_n 3, 1), (8, .land, 1), (9, .goto 18, 3), (12, .iload_n 0, 1), (13, .bipush 24, 2), (15, .if_icmp .ne 9, 3), (18, .lload_n 1, 1), (19, .lload_n 3, 1), (20, .lor, 1), (21, .goto 6, 3), (24, .lload_n 1, 1), (25, .lload_n 3, 1), (26, .lxor, 1), (27, .lreturn, 1)]
set_option maxRecDepth 100000 in
theorem M_joined_d : ax_T M_joined_c M_joined_t := by unfold ax_T; decide +kernel
abbrev M_not_c : ByteArray := prog_15_method_70_code
def M_not_y : MethodName := ⟨"NumberFunctionsModel", "not", "()V"⟩
def M_not_t : List (Nat × Instr × Nat) := [(0, .aload_n 0, 1), (1, .iconst 1, 1), (2, .invokevirtual 363, 3), (5, .ifCond .ne 4, 3), (8, .return_, 1), (9, .aload_n 0, 1), (10, .getfield 71, 3), (13, .aload_n 0, 1), (14, .getfield 353, 3), (17, .iconst 1, 1), (18, .isub, 1), (19, .baload, 1), (20, .ifCond .eq 24, 3), (23, .aload_n 0, 1), (24, .aload_n 0, 1), (25, .invokevirtual 392, 3), (28, .lconst 0, 1), (29, .lcmp, 1), (30, .ifCond .ne 7, 3), (33, .iconst 1, 1), (34, .goto 4, 3), (37, .iconst 0, 1), (38, .invokevirtual 426, 3), (41, .goto 31, 3), (44, .aload_n 0, 1), (45, .iconst 1, 1), (46, .invokevirtual 423, 3), (49, .ifCond .eq 23, 3), (52, .aload_n 0, 1), (53, .ldc2_w 442, 3), (56, .aload_n 0, 1), (57, .invokevirtual 392, 3), (60, .ldc2_w 114, 3), (63, .ldiv, 1), (64, .lsub, 1), (65, .ldc2_w 114, 3), (68, .lmul, 1), (69, .invokevirtual 382, 3), (72, .return_, 1)]
set_option maxRecDepth 100000 in
theorem M_not_d : ax_T M_not_c M_not_t := by unfold ax_T; decide +kernel
abbrev M_shift_c : ByteArray := prog_15_method_71_code
def M_shift_y : MethodName := ⟨"NumberFunctionsModel", "shift", "()V"⟩
def M_shift_t : List (Nat × Instr × Nat) := [(0, .aload_n 0, 1), (1, .iconst 2, 1), (2, .invokevirtual 423, 3), (5, .ifCond .eq 32, 3), (8, .aload_n 0, 1), (9, .getfield 68, 3), (12, .aload_n 0, 1), (13, .getfield 353, 3), (16, .iconst 1, 1), (17, .isub, 1), (18, .laload, 1), (19, .ldc2_w 444, 3), (22, .ldc2_w 446, 3), (25, .invokestatic 92, 3), (28, .ifCond .ne 9, 3), (31, .aload_n 0, 1), (32, .bipush 12, 2), (34, .invokevirtual 356, 3), (37, .aload_n 0, 1), (38, .invokevirtual 349, 3), (41, .ifCond .eq 48, 3), (44, .aload_n 0, 1), (45, .invokevirtual 392, 3), (48, .ldc2_w 114, 3), (51, .ldiv, 1), (52, .l2i, 1), (53, .istore_n 1, 1), (54, .aload_n 0, 1), (55, .invokevirtual 392, 3), (58, .ldc2_w 114, 3), (61, .ldiv, 1), (62, .l2i, 1), (63, .istore_n 2, 1), (64, .iload_n 1, 1), (65, .ifCond .lt 9, 3), (68, .iload_n 2, 1), (69, .iload_n 1, 1), (70, .ishl, 1), (71, .goto 7, 3), (74, .iload_n 2, 1), (75, .iload_n 1, 1), (76, .ineg, 1), (77, .iushr, 1), (78, .istore_n 3, 1), (79, .aload_n 0, 1), (80, .iload_n 3, 1), (81, .i2l, 1), (82, .ldc2_w 114, 3), (85, .lmul, 1), (86, .invokevirtual 382, 3), (89, .return_, 1)]
set_option maxRecDepth 100000 in
theorem M_shift_d : ax_T M_shift_c M_shift_t := by unfold ax_T; decide +kernel
abbrev M_move_c : ByteArray := prog_15_method_72_code
def M_move_y : MethodName := ⟨"NumberFunctionsModel", "move", "(I)V"⟩
def M_move_t : List (Nat × Instr × Nat) := [(0, .iload_n 1, 1), (1, .tableswitch 131 28 32 #[35, 63, 80, 117, 124], 35), (36, .aload_n 0, 1), (37, .aload_n 0, 1), (38, .iconst 1, 1), (39, .invokevirtual 363, 3), (42, .ifCond .eq 12, 3), (45, .aload_n 0, 1), (46, .getfield 353, 3), (49, .iconst 1, 1), (50, .isub, 1), (51, .goto 7, 3), (54, .aload_n 0, 1), (55, .getfield 353, 3), (58, .putfield 353, 3), (61, .goto 75, 3), (64, .aload_n 0, 1), (65, .iconst 2, 1), (66, .invokevirtual 363, 3), (69, .ifCond .eq 67, 3), (72, .aload_n 0, 1), (73, .iconst 2, 1), (74, .lconst 1, 1), (75, .invokevirtual 448, 3), (78, .goto 58, 3), (81, .aload_n 0, 1), (82, .iconst 1, 1), (83, .invokevirtual 363, 3), (86, .ifCond .eq 50, 3), (89, .aload_n 0, 1), (90, .aload_n 0, 1), (91, .getfield 68, 3), (94, .aload_n 0, 1), (95, .getfield 353, 3), (98, .iconst 1, 1), (99, .isub, 1), (100, .laload, 1), (101, .aload_n 0, 1), (102, .getfield 71, 3), (105, .aload_n 0, 1), (106, .getfield 353, 3), (109, .iconst 1, 1), (110, .isub, 1), (111, .baload, 1), (112, .invokevirtual 359, 3), (115, .goto 21, 3), (118, .aload_n 0, 1), (119, .invokevirtual 451, 3), (122, .goto 14, 3), (125, .aload_n 0, 1), (126, .invokevirtual 453, 3), (129, .goto 7, 3), (132, .aload_n 0, 1), (133, .invokevirtual 455, 3), (136, .return_, 1)]
set_option maxRecDepth 100000 in
theorem M_move_d : ax_T M_move_c M_move_t := by unfold ax_T; decide +kernel
abbrev M_turn_c : ByteArray := prog_15_method_77_code
def M_turn_y : MethodName := ⟨"NumberFunctionsModel", "turn", "(IJ)V"⟩
def M_turn_t : List (Nat × Instr × Nat) := [(0, .lconst 0, 1), (1, .lstore 4, 2), (3, .lload 4, 2), (5, .lload_n 2, 1), (6, .lcmp, 1), (7, .ifCond .ge 131, 3), (10, .aload_n 0, 1), (11, .getfield 68, 3), (14, .aload_n 0, 1), (15, .getfield 353, 3), (18, .iconst 1, 1), (19, .isub, 1), (20, .laload, 1), (21, .lstore 6, 2), (23, .aload_n 0, 1), (24, .getfield 71, 3), (27, .aload_n 0, 1), (28, .getfield 353, 3), (31, .iconst 1, 1), (32, .isub, 1), (33, .baload, 1), (34, .istore 8, 2), (36, .iconst 1, 1), (37, .istore 9, 2), (39, .iload 9, 2), (41, .iload_n 1, 1), (42, .if_icmp .ge 61, 3), (45, .aload_n 0, 1), (46, .getfield 68, 3), (49, .aload_n 0, 1), (50, .getfield 353, 3), (53, .iload 9, 2), (55, .isub, 1), (56, .aload_n 0, 1), (57, .getfield 68, 3), (60, .aload_n 0, 1), (61, .getfield 353, 3), (64, .iload 9, 2), (66, .isub, 1), (67, .iconst 1, 1), (68, .isub, 1), (69, .laload, 1), (70, .lastore, 1), (71, .aload_n 0, 1), (72, .getfield 71, 3), (75, .aload_n 0, 1), (76, .getfield 353, 3), (79, .iload 9, 2), (81, .isub, 1), (82, .aload_n 0, 1), (83, .getfield 71, 3), (86, .aload_n 0, 1), (87, .getfield 353, 3), (90, .iload 9, 2), (92, .isub, 1), (93, .iconst 1, 1), (94, .isub, 1), (95, .baload, 1), (96, .bastore, 1), (97, .iinc 9 1, 3), (100, .goto (-61), 3), (103, .aload_n 0, 1), (104, .getfield 68, 3), (107, .aload_n 0, 1), (108, .getfield 353, 3), (111, .iload_n 1, 1), (112, .isub, 1), (113, .lload 6, 2), (115, .lastore, 1), (116, .aload_n 0, 1), (117, .getfield 71, 3), (120, .aload_n 0, 1), (121, .getfield 353, 3), (124, .iload_n 1, 1), (125, .isub, 1), (126, .iload 8, 2), (128, .bastore, 1), (129, .lload 4, 2), (131, .lconst 1, 1), (132, .ladd, 1), (133, .lstore 4, 2), (135, .goto (-132), 3), (138, .return_, 1)]
set_option maxRecDepth 100000 in
theorem M_turn_d : ax_T M_turn_c M_turn_t := by unfold ax_T; decide +kernel
abbrev M_copy_c : ByteArray := prog_15_method_74_code
def M_copy_y : MethodName := ⟨"NumberFunctionsModel", "copy", "()V"⟩
def M_copy_t : List (Nat × Instr × Nat) := [(0, .aload_n 0, 1), (1, .iconst 1, 1), (2, .invokevirtual 423, 3), (5, .ifCond .eq 11, 3), (8, .aload_n 0, 1), (9, .iconst 0, 1), (10, .invokevirtual 457, 3), (13, .ifCond .ne 4, 3), (16, .return_, 1), (17, .aload_n 0, 1), (18, .invokevirtual 392, 3), (21, .ldc2_w 114, 3), (24, .ldiv, 1), (25, .lstore_n 1, 1), (26, .lload_n 1, 1), (27, .aload_n 0, 1), (28, .getfield 353, 3), (31, .i2l, 1), (32, .lcmp, 1), (33, .ifCond .le 12, 3), (36, .aload_n 0, 1), (37, .bipush 9, 2), (39, .invokevirtual 356, 3), (42, .goto 23, 3), (45, .aload_n 0, 1), (46, .getfield 353, 3), (49, .i2l, 1), (50, .lload_n 1, 1), (51, .ladd, 1), (52, .ldc2_w 460, 3), (55, .lcmp, 1), (56, .ifCond .le 9, 3), (59, .aload_n 0, 1), (60, .bipush 8, 2), (62, .invokevirtual 356, 3), (65, .iconst 0, 1), (66, .istore_n 3, 1), (67, .iload_n 3, 1), (68, .i2l, 1), (69, .lload_n 1, 1), (70, .lcmp, 1), (71, .ifCond .ge 44, 3), (74, .aload_n 0, 1), (75, .invokevirtual 349, 3), (78, .ifCond .eq 37, 3), (81, .aload_n 0, 1), (82, .aload_n 0, 1), (83, .getfield 68, 3), (86, .aload_n 0, 1), (87, .getfield 353, 3), (90, .lload_n 1, 1), (91, .l2i, 1), (92, .isub, 1), (93, .laload, 1), (94, .aload_n 0, 1), (95, .getfield 71, 3), (98, .aload_n 0, 1), (99, .getfield 353, 3), (102, .lload_n 1, 1), (103, .l2i, 1), (104, .isub, 1), (105, .baload, 1), (106, .invokevirtual 359, 3), (109, .iinc 3 1, 3), (112, .goto (-45), 3), (115, .return_, 1)]
set_option maxRecDepth 100000 in
theorem M_copy_d : ax_T M_copy_c M_copy_t := by unfold ax_T; decide +kernel
abbrev M_isAmount_c : ByteArray := prog_15_method_73_code
def M_isAmount_y : MethodName := ⟨"NumberFunctionsModel", "isAmount", "(I)Z"⟩
def M_isAmount_t : List (Nat × Instr × Nat) := [(0, .aload_n 0, 1), (1, .invokevirtual 349, 3), (4, .ifCond .eq 27, 3), (7, .aload_n 0, 1), (8, .getfield 68, 3), (11, .aload_n 0, 1), (12, .getfield 353, 3), (15, .iconst 1, 1), (16, .isub, 1), (17, .iload_n 1, 1), (18, .isub, 1), (19, .laload, 1), (20, .lconst 0, 1), (21, .lcmp, 1), (22, .ifCond .ge 9, 3), (25, .aload_n 0, 1), (26, .bipush 12, 2), (28, .invokevirtual 356, 3), (31, .aload_n 0, 1), (32, .invokevirtual 349, 3), (35, .ireturn, 1)]
set_option maxRecDepth 100000 in
theorem M_isAmount_d : ax_T M_isAmount_c M_isAmount_t := by unfold ax_T; decide +kernel
abbrev M_index_c : ByteArray := prog_15_method_75_code
def M_index_y : MethodName := ⟨"NumberFunctionsModel", "index", "()V"⟩
def M_index_t : List (Nat × Instr × Nat) := [(0, .aload_n 0, 1), (1, .iconst 1, 1), (2, .invokevirtual 423, 3), (5, .ifCond .eq 11, 3), (8, .aload_n 0, 1), (9, .iconst 0, 1), (10, .invokevirtual 457, 3), (13, .ifCond .ne 4, 3), (16, .return_, 1), (17, .aload_n 0, 1), (18, .invokevirtual 392, 3), (21, .ldc2_w 114, 3), (24, .ldiv, 1), (25, .lstore_n 1, 1), (26, .lload_n 1, 1), (27, .aload_n 0, 1), (28, .getfield 353, 3), (31, .i2l, 1), (32, .lcmp, 1), (33, .ifCond .lt 12, 3), (36, .aload_n 0, 1), (37, .bipush 9, 2), (39, .invokevirtual 356, 3), (42, .goto 35, 3), (45, .aload_n 0, 1), (46, .aload_n 0, 1), (47, .getfield 68, 3), (50, .aload_n 0, 1), (51, .getfield 353, 3), (54, .iconst 1, 1), (55, .isub, 1), (56, .lload_n 1, 1), (57, .l2i, 1), (58, .isub, 1), (59, .laload, 1), (60, .aload_n 0, 1), (61, .getfield 71, 3), (64, .aload_n 0, 1), (65, .getfield 353, 3), (68, .iconst 1, 1), (69, .isub, 1), (70, .lload_n 1, 1), (71, .l2i, 1), (72, .isub, 1), (73, .baload, 1), (74, .invokevirtual 359, 3), (77, .return_, 1)]
set_option maxRecDepth 100000 in
theorem M_index_d : ax_T M_index_c M_index_t := by unfold ax_T; decide +kernel
abbrev M_roll_c : ByteArray := prog_15_method_76_code
def M_roll_y : MethodName := ⟨"NumberFunctionsModel", "roll", "()V"⟩
def M_roll_t : List (Nat × Instr × Nat) := [(0, .aload_n 0, 1), (1, .iconst 2, 1), (2, .invokevirtual 423, 3), (5, .ifCond .eq 11, 3), (8, .aload_n 0, 1), (9, .iconst 1, 1), (10, .invokevirtual 457, 3), (13, .ifCond .ne 4, 3), (16, .return_, 1), (17, .aload_n 0, 1), (18, .invokevirtual 392, 3), (21, .ldc2_w 114, 3), (24, .ldiv, 1), (25, .lstore_n 1, 1), (26, .aload_n 0, 1), (27, .invokevirtual 392, 3), (30, .ldc2_w 114, 3), (33, .ldiv, 1), (34, .lstore_n 3, 1), (35, .lload_n 3, 1), (36, .aload_n 0, 1), (37, .getfield 353, 3), (40, .i2l, 1), (41, .lcmp, 1), (42, .ifCond .le 12, 3), (45, .aload_n 0, 1), (46, .bipush 9, 2), (48, .invokevirtual 356, 3), (51, .goto 20, 3), (54, .lload_n 3, 1), (55, .lconst 0, 1), (56, .lcmp, 1), (57, .ifCond .le 14, 3), (60, .aload_n 0, 1), (61, .lload_n 3, 1), (62, .l2i, 1), (63, .lload_n 1, 1), (64, .lload_n 3, 1), (65, .invokestatic 462, 3), (68, .invokevirtual 448, 3), (71, .return_, 1)]
set_option maxRecDepth 100000 in
theorem M_roll_d : ax_T M_roll_c M_roll_t := by unfold ax_T; decide +kernel
end
section
def Cl_N : u_T := fun k => match k with
  | 0 => ("NumberFunctions", "row", "[B", true)
  | 1 => ("NumberFunctions", "rowLength", "I", false)
  | 2 => ("NumberFunctions", "telling", "LNumberFunctions$Telling;", true)
  | 3 => ("NumberFunctions", "functions", "[LNumberFunctions$Function;", true)
  | 4 => ("NumberFunctions", "functionCount", "I", false)
  | 5 => ("NumberFunctions", "inputNumbers", "[I", true)
  | 6 => ("NumberFunctions", "outputNumbers", "[I", true)
  | 7 => ("NumberFunctions", "given", "[I", true)
  | 8 => ("NumberFunctions", "lastFault", "LNumberFunctions$Fault;", true)
  | 9 => ("NumberFunctions", "reader", "LNumberFunctions$Reader;", true)
  | _ => ("NumberFunctions", "machine", "LNumberFunctions$Machine;", true)
def Ty_N : Nat → FieldType := fun k => match k with
  | 0 => (.array .byte)
  | 1 => .int
  | 2 => (.object "NumberFunctions$Telling")
  | 3 => (.array (.object "NumberFunctions$Function"))
  | 4 => .int
  | 5 => (.array .int)
  | 6 => (.array .int)
  | 7 => (.array .int)
  | 8 => (.object "NumberFunctions$Fault")
  | 9 => (.object "NumberFunctions$Reader")
  | _ => (.object "NumberFunctions$Machine")
def Cl_T : u_T := fun k => match k with
  | 0 => ("NumberFunctions$Telling", "numbers", "[I", true)
  | _ => ("NumberFunctions$Telling", "count", "I", false)
def Ty_T : Nat → FieldType := fun k => match k with
  | 0 => (.array .int)
  | _ => .int
def Cl_U : u_T := fun k => match k with
  | 0 => ("NumberFunctions$Fault", "what", "I", false)
  | _ => ("NumberFunctions$Fault", "place", "I", false)
def Ty_U : Nat → FieldType := fun k => match k with
  | 0 => .int
  | _ => .int
def Cl_R : u_T := fun k => match k with
  | 0 => ("NumberFunctions$Reader", "words", "[LNumberFunctions$Word;", true)
  | 1 => ("NumberFunctions$Reader", "numbers", "[I", true)
  | 2 => ("NumberFunctions$Reader", "onward", "[I", true)
  | 3 => ("NumberFunctions$Reader", "otherwise", "[I", true)
  | 4 => ("NumberFunctions$Reader", "count", "I", false)
  | 5 => ("NumberFunctions$Reader", "opened", "[I", true)
  | 6 => ("NumberFunctions$Reader", "waiting", "[I", true)
  | 7 => ("NumberFunctions$Reader", "first", "[I", true)
  | 8 => ("NumberFunctions$Reader", "second", "[I", true)
  | 9 => ("NumberFunctions$Reader", "depth", "I", false)
  | 10 => ("NumberFunctions$Reader", "bytes", "[B", false)
  | 11 => ("NumberFunctions$Reader", "length", "I", false)
  | _ => ("NumberFunctions$Reader", "numeral", "I", false)
def Ty_R : Nat → FieldType := fun k => match k with
  | 0 => (.array (.object "NumberFunctions$Word"))
  | 1 => (.array .int)
  | 2 => (.array .int)
  | 3 => (.array .int)
  | 4 => .int
  | 5 => (.array .int)
  | 6 => (.array .int)
  | 7 => (.array .int)
  | 8 => (.array .int)
  | 9 => .int
  | 10 => (.array .byte)
  | 11 => .int
  | _ => .int
def Cl_K : u_T := fun k => match k with
  | 0 => ("NumberFunctions$Machine", "values", "[I", true)
  | 1 => ("NumberFunctions$Machine", "truths", "[Z", true)
  | 2 => ("NumberFunctions$Machine", "size", "I", false)
  | _ => ("NumberFunctions$Machine", "chosen", "Z", false)
def Ty_K : Nat → FieldType := fun k => match k with
  | 0 => (.array .int)
  | 1 => (.array .boolean)
  | 2 => .int
  | _ => .boolean
def Cl_S : u_T := fun k => match k with
  | 0 => ("NumberFunctions$Samples", "bytes", "[B", true)
  | 1 => ("NumberFunctions$Samples", "bits", "I", true)
  | 2 => ("NumberFunctions$Samples", "wholes", "[I", true)
  | 3 => ("NumberFunctions$Samples", "rests", "[I", true)
  | 4 => ("NumberFunctions$Samples", "corners", "[J", true)
  | 5 => ("NumberFunctions$Function", "inputs", "I", true)
  | 6 => ("NumberFunctions$Function", "outputs", "I", true)
  | _ => ("NumberFunctions$Function", "terms", "[I", true)
def Ty_S : Nat → FieldType := fun k => match k with
  | 0 => (.array .byte)
  | 1 => .int
  | 2 => (.array .int)
  | 3 => (.array .int)
  | 4 => (.array .long)
  | 5 => .int
  | 6 => .int
  | _ => (.array .int)
def Cl_P : u_T := fun k => match k with
  | 0 => ("NumberFunctions$Function", "inputs", "I", true)
  | 1 => ("NumberFunctions$Function", "outputs", "I", true)
  | _ => ("NumberFunctions$Function", "terms", "[I", true)
def Ty_P : Nat → FieldType := fun k => match k with
  | 0 => .int
  | 1 => .int
  | _ => (.array .int)
def Cl_Z : u_T := fun k => match k with
  | 0 => ("NumberFunctions$Stitched", "parts", "[LNumberFunctions$Function;", true)
  | 1 => ("NumberFunctions$Function", "inputs", "I", true)
  | 2 => ("NumberFunctions$Function", "outputs", "I", true)
  | _ => ("NumberFunctions$Function", "terms", "[I", true)
def Ty_Z : Nat → FieldType := fun k => match k with
  | 0 => (.array (.object "NumberFunctions$Function"))
  | 1 => .int
  | 2 => .int
  | _ => (.array .int)
def Cl_G : u_T := fun k => match k with
  | 0 => ("NumberFunctions$Program", "count", "I", true)
  | 1 => ("NumberFunctions$Program", "words", "[LNumberFunctions$Word;", true)
  | 2 => ("NumberFunctions$Program", "numbers", "[I", true)
  | 3 => ("NumberFunctions$Program", "onward", "[I", true)
  | 4 => ("NumberFunctions$Program", "otherwise", "[I", true)
  | 5 => ("NumberFunctions$Program", "machine", "LNumberFunctions$Machine;", true)
  | 6 => ("NumberFunctions$Function", "inputs", "I", true)
  | 7 => ("NumberFunctions$Function", "outputs", "I", true)
  | _ => ("NumberFunctions$Function", "terms", "[I", true)
def Ty_G : Nat → FieldType := fun k => match k with
  | 0 => .int
  | 1 => (.array (.object "NumberFunctions$Word"))
  | 2 => (.array .int)
  | 3 => (.array .int)
  | 4 => (.array .int)
  | 5 => (.object "NumberFunctions$Machine")
  | 6 => .int
  | 7 => .int
  | _ => (.array .int)
def Cl_M : u_T := fun k => match k with
  | 0 => ("NumberFunctionsModel", "refusal", "I", false)
  | 1 => ("NumberFunctionsModel", "size", "I", false)
  | 2 => ("NumberFunctionsModel", "row", "[B", true)
  | 3 => ("NumberFunctionsModel", "told", "I", false)
  | 4 => ("NumberFunctionsModel", "telling", "[I", true)
  | 5 => ("NumberFunctionsModel", "inputs", "[I", true)
  | 6 => ("NumberFunctionsModel", "outputs", "[I", true)
  | 7 => ("NumberFunctionsModel", "faultKind", "I", false)
  | 8 => ("NumberFunctionsModel", "faultPlace", "I", false)
  | 9 => ("NumberFunctionsModel", "functions", "I", false)
  | 10 => ("NumberFunctionsModel", "kinds", "[I", true)
  | 11 => ("NumberFunctionsModel", "takes", "[I", true)
  | 12 => ("NumberFunctionsModel", "gives", "[I", true)
  | 13 => ("NumberFunctionsModel", "numbers", "[I", true)
  | 14 => ("NumberFunctionsModel", "sizes", "[I", true)
  | 15 => ("NumberFunctionsModel", "bytes", "[B", true)
  | 16 => ("NumberFunctionsModel", "corners", "[J", true)
  | 17 => ("NumberFunctionsModel", "wholes", "[I", true)
  | 18 => ("NumberFunctionsModel", "rests", "[J", true)
  | 19 => ("NumberFunctionsModel", "given", "[J", true)
  | 20 => ("NumberFunctionsModel", "words", "I", false)
  | 21 => ("NumberFunctionsModel", "begins", "[I", true)
  | 22 => ("NumberFunctionsModel", "ends", "[I", true)
  | 23 => ("NumberFunctionsModel", "wrong", "I", false)
  | 24 => ("NumberFunctionsModel", "wrongAt", "I", false)
  | 25 => ("NumberFunctionsModel", "depth", "I", false)
  | 26 => ("NumberFunctionsModel", "stack", "[J", true)
  | 27 => ("NumberFunctionsModel", "isTruth", "[Z", true)
  | 28 => ("NumberFunctionsModel", "returns", "[I", true)
  | 29 => ("NumberFunctionsModel", "open", "I", false)
  | 30 => ("NumberFunctionsModel", "place", "I", false)
  | _ => ("NumberFunctionsModel", "stitchedTo", "I", false)
def Ty_M : Nat → FieldType := fun k => match k with
  | 0 => .int
  | 1 => .int
  | 2 => (.array .byte)
  | 3 => .int
  | 4 => (.array .int)
  | 5 => (.array .int)
  | 6 => (.array .int)
  | 7 => .int
  | 8 => .int
  | 9 => .int
  | 10 => (.array .int)
  | 11 => (.array .int)
  | 12 => (.array .int)
  | 13 => (.array .int)
  | 14 => (.array .int)
  | 15 => (.array .byte)
  | 16 => (.array .long)
  | 17 => (.array .int)
  | 18 => (.array .long)
  | 19 => (.array .long)
  | 20 => .int
  | 21 => (.array .int)
  | 22 => (.array .int)
  | 23 => .int
  | 24 => .int
  | 25 => .int
  | 26 => (.array .long)
  | 27 => (.array .boolean)
  | 28 => (.array .int)
  | 29 => .int
  | 30 => .int
  | _ => .int
def Cl_EA : u_T := fun k => match k with
  | 0 => ("java/lang/Throwable", "cause", "Ljava/lang/Throwable;", false)
  | 1 => ("java/lang/Throwable", "stackTrace", "[Ljava/lang/StackTraceElement;", false)
  | 2 => ("java/lang/Throwable", "suppressedExceptions", "Ljava/util/List;", false)
  | 3 => ("java/lang/Throwable", "detailMessage", "Ljava/lang/String;", false)
  | 4 => ("java/lang/Throwable", "backtrace", "Ljava/lang/Object;", false)
  | _ => ("java/lang/Throwable", "depth", "I", false)
def Ty_EA : Nat → FieldType := fun k => match k with
  | 0 => (.object "java/lang/Throwable")
  | 1 => (.array (.object "java/lang/StackTraceElement"))
  | 2 => (.object "java/util/List")
  | 3 => (.object "java/lang/String")
  | 4 => (.object "java/lang/Object")
  | _ => .int
def Cl_ES : u_T := fun k => match k with
  | 0 => ("java/lang/Throwable", "cause", "Ljava/lang/Throwable;", false)
  | 1 => ("java/lang/Throwable", "stackTrace", "[Ljava/lang/StackTraceElement;", false)
  | 2 => ("java/lang/Throwable", "suppressedExceptions", "Ljava/util/List;", false)
  | 3 => ("java/lang/Throwable", "detailMessage", "Ljava/lang/String;", false)
  | 4 => ("java/lang/Throwable", "backtrace", "Ljava/lang/Object;", false)
  | _ => ("java/lang/Throwable", "depth", "I", false)
def Ty_ES : Nat → FieldType := fun k => match k with
  | 0 => (.object "java/lang/Throwable")
  | 1 => (.array (.object "java/lang/StackTraceElement"))
  | 2 => (.object "java/util/List")
  | 3 => (.object "java/lang/String")
  | 4 => (.object "java/lang/Object")
  | _ => .int
def Cl_EI : u_T := fun k => match k with
  | 0 => ("java/lang/Throwable", "cause", "Ljava/lang/Throwable;", false)
  | 1 => ("java/lang/Throwable", "stackTrace", "[Ljava/lang/StackTraceElement;", false)
  | 2 => ("java/lang/Throwable", "suppressedExceptions", "Ljava/util/List;", false)
  | 3 => ("java/lang/Throwable", "detailMessage", "Ljava/lang/String;", false)
  | 4 => ("java/lang/Throwable", "backtrace", "Ljava/lang/Object;", false)
  | _ => ("java/lang/Throwable", "depth", "I", false)
def Ty_EI : Nat → FieldType := fun k => match k with
  | 0 => (.object "java/lang/Throwable")
  | 1 => (.array (.object "java/lang/StackTraceElement"))
  | 2 => (.object "java/util/List")
  | 3 => (.object "java/lang/String")
  | 4 => (.object "java/lang/Object")
  | _ => .int
def Cl_O : u_T := fun k => match k with
  | 0 => ("NumberFunctions$Word", "text", "Ljava/lang/String;", true)
  | 1 => ("NumberFunctions$Word", "takes", "I", true)
  | 2 => ("NumberFunctions$Word", "group", "I", true)
  | _ => ("java/lang/Enum", "ordinal", "I", true)
def Ty_O : Nat → FieldType := fun k => match k with
  | 0 => (.object "java/lang/String")
  | 1 => .int
  | 2 => .int
  | _ => .int
def Cl_Q : u_T := fun k => match k with
  | 0 => ("java/lang/String", "value", "[B", true)
  | _ => ("java/lang/String", "coder", "B", true)
def Ty_Q : Nat → FieldType := fun k => match k with
  | 0 => (.array .byte)
  | _ => .byte
def vcl : List vw_C := [("NumberFunctions", Cl_N, 11), ("NumberFunctions$Telling", Cl_T, 2), ("NumberFunctions$Fault", Cl_U, 2), ("NumberFunctions$Reader", Cl_R, 13), ("NumberFunctions$Machine", Cl_K, 4), ("NumberFunctions$Samples", Cl_S, 8), ("NumberFunctions$Powers", Cl_P, 3), ("NumberFunctions$Stitched", Cl_Z, 4), ("NumberFunctions$Program", Cl_G, 9), ("NumberFunctionsModel", Cl_M, 32), ("java/lang/IllegalArgumentException", Cl_EA, 6), ("java/lang/IllegalStateException", Cl_ES, 6), ("java/lang/IndexOutOfBoundsException", Cl_EI, 6), ("NumberFunctions$Word", Cl_O, 4), ("java/lang/String", Cl_Q, 2)]
def vtl : List FieldType := [.int, .byte, .long, .boolean, .object "NumberFunctions$Function", .object "NumberFunctions$Word"]
def vzs : List (String × String × String × Value) := [("NumberFunctions$Word", "OPEN", "LNumberFunctions$Word;", .ref 0), ("NumberFunctions$Word", "CLOSE", "LNumberFunctions$Word;", .ref 1), ("NumberFunctions$Word", "NUMERAL", "LNumberFunctions$Word;", .ref 2), ("NumberFunctions$Word", "TRUE", "LNumberFunctions$Word;", .ref 3), ("NumberFunctions$Word", "FALSE", "LNumberFunctions$Word;", .ref 4), ("NumberFunctions$Word", "ABS", "LNumberFunctions$Word;", .ref 5), ("NumberFunctions$Word", "NEG", "LNumberFunctions$Word;", .ref 6), ("NumberFunctions$Word", "CEILING", "LNumberFunctions$Word;", .ref 7), ("NumberFunctions$Word", "FLOOR", "LNumberFunctions$Word;", .ref 8), ("NumberFunctions$Word", "ROUND", "LNumberFunctions$Word;", .ref 9), ("NumberFunctions$Word", "TRUNCATE", "LNumberFunctions$Word;", .ref 10), ("NumberFunctions$Word", "CVI", "LNumberFunctions$Word;", .ref 11), ("NumberFunctions$Word", "CVR", "LNumberFunctions$Word;", .ref 12), ("NumberFunctions$Word", "SQRT", "LNumberFunctions$Word;", .ref 13), ("NumberFunctions$Word", "ADD", "LNumberFunctions$Word;", .ref 14), ("NumberFunctions$Word", "SUB", "LNumberFunctions$Word;", .ref 15), ("NumberFunctions$Word", "MUL", "LNumberFunctions$Word;", .ref 16), ("NumberFunctions$Word", "DIV", "LNumberFunctions$Word;", .ref 17), ("NumberFunctions$Word", "IDIV", "LNumberFunctions$Word;", .ref 18), ("NumberFunctions$Word", "MOD", "LNumberFunctions$Word;", .ref 19), ("NumberFunctions$Word", "BITSHIFT", "LNumberFunctions$Word;", .ref 20), ("NumberFunctions$Word", "EQ", "LNumberFunctions$Word;", .ref 21), ("NumberFunctions$Word", "NE", "LNumberFunctions$Word;", .ref 22), ("NumberFunctions$Word", "GT", "LNumberFunctions$Word;", .ref 23), ("NumberFunctions$Word", "GE", "LNumberFunctions$Word;", .ref 24), ("NumberFunctions$Word", "LT", "LNumberFunctions$Word;", .ref 25), ("NumberFunctions$Word", "LE", "LNumberFunctions$Word;", .ref 26), ("NumberFunctions$Word", "AND", "LNumberFunctions$Word;", .ref 27), ("NumberFunctions$Word", "OR", "LNumberFunctions$Word;", .ref 28), ("NumberFunctions$Word", "XOR", "LNumberFunctions$Word;", .ref 29), ("NumberFunctions$Word", "NOT", "LNumberFunctions$Word;", .ref 30), ("NumberFunctions$Word", "POP", "LNumberFunctions$Word;", .ref 31), ("NumberFunctions$Word", "EXCH", "LNumberFunctions$Word;", .ref 32), ("NumberFunctions$Word", "DUP", "LNumberFunctions$Word;", .ref 33), ("NumberFunctions$Word", "COPY", "LNumberFunctions$Word;", .ref 34), ("NumberFunctions$Word", "INDEX", "LNumberFunctions$Word;", .ref 35), ("NumberFunctions$Word", "ROLL", "LNumberFunctions$Word;", .ref 36), ("NumberFunctions$Word", "IF", "LNumberFunctions$Word;", .ref 37), ("NumberFunctions$Word", "IFELSE", "LNumberFunctions$Word;", .ref 38), ("NumberFunctions$Word", "ALL", "[LNumberFunctions$Word;", .ref 87), ("NumberFunctions$1", "$SwitchMap$NumberFunctions$Word", "[I", .ref 88), ("java/lang/String", "COMPACT_STRINGS", "Z", .int 1)]
def v_sw : Nat → Value := fun k => .int (match k with
  | 0 => 0
  | 1 => 0
  | 2 => 0
  | 3 => 0
  | 4 => 0
  | 5 => 1
  | 6 => 2
  | 7 => 3
  | 8 => 4
  | 9 => 5
  | 10 => 6
  | 11 => 7
  | 12 => 0
  | 13 => 8
  | 14 => 9
  | 15 => 10
  | 16 => 11
  | 17 => 0
  | 18 => 0
  | 19 => 0
  | 20 => 0
  | 21 => 12
  | 22 => 13
  | 23 => 14
  | 24 => 15
  | 25 => 16
  | 26 => 0
  | 27 => 17
  | 28 => 18
  | 29 => 0
  | 30 => 0
  | 31 => 19
  | 32 => 20
  | 33 => 0
  | 34 => 0
  | 35 => 0
  | 36 => 0
  | 37 => 0
  | 38 => 0
  | _ => 0)
/-- the texts of the words, as bytes -/
def v_tx : List (List Int32) := [[123], [125], [], [116, 114, 117, 101], [102, 97, 108, 115, 101], [97, 98, 115], [110, 101, 103], [99, 101, 105, 108, 105, 110, 103], [102, 108, 111, 111, 114], [114, 111, 117, 110, 100], [116, 114, 117, 110, 99, 97, 116, 101], [99, 118, 105], [99, 118, 114], [115, 113, 114, 116], [97, 100, 100], [115, 117, 98], [109, 117, 108], [100, 105, 118], [105, 100, 105, 118], [109, 111, 100], [98, 105, 116, 115, 104, 105, 102, 116], [101, 113], [110, 101], [103, 116], [103, 101], [108, 116], [108, 101], [97, 110, 100], [111, 114], [120, 111, 114], [110, 111, 116], [112, 111, 112], [101, 120, 99, 104], [100, 117, 112], [99, 111, 112, 121], [105, 110, 100, 101, 120], [114, 111, 108, 108], [105, 102], [105, 102, 101, 108, 115, 101]]
def v_txb (i j : Nat) : Int32 := (v_tx.getD i []).getD j 0
def vta : List (Nat × FieldType × Nat × (Nat → Value)) := [(87, .object "NumberFunctions$Word", 39, fun k => .ref k), (88, .int, 39, v_sw), (90, .byte, 1, fun j => .int (v_txb 0 j)), (91, .byte, 1, fun j => .int (v_txb 1 j)), (92, .byte, 0, fun j => .int (v_txb 2 j)), (93, .byte, 4, fun j => .int (v_txb 3 j)), (94, .byte, 5, fun j => .int (v_txb 4 j)), (95, .byte, 3, fun j => .int (v_txb 5 j)), (96, .byte, 3, fun j => .int (v_txb 6 j)), (97, .byte, 7, fun j => .int (v_txb 7 j)), (98, .byte, 5, fun j => .int (v_txb 8 j)), (99, .byte, 5, fun j => .int (v_txb 9 j)), (100, .byte, 8, fun j => .int (v_txb 10 j)), (101, .byte, 3, fun j => .int (v_txb 11 j)), (102, .byte, 3, fun j => .int (v_txb 12 j)), (103, .byte, 4, fun j => .int (v_txb 13 j)), (104, .byte, 3, fun j => .int (v_txb 14 j)), (105, .byte, 3, fun j => .int (v_txb 15 j)), (106, .byte, 3, fun j => .int (v_txb 16 j)), (107, .byte, 3, fun j => .int (v_txb 17 j)), (108, .byte, 4, fun j => .int (v_txb 18 j)), (109, .byte, 3, fun j => .int (v_txb 19 j)), (110, .byte, 8, fun j => .int (v_txb 20 j)), (111, .byte, 2, fun j => .int (v_txb 21 j)), (112, .byte, 2, fun j => .int (v_txb 22 j)), (113, .byte, 2, fun j => .int (v_txb 23 j)), (114, .byte, 2, fun j => .int (v_txb 24 j)), (115, .byte, 2, fun j => .int (v_txb 25 j)), (116, .byte, 2, fun j => .int (v_txb 26 j)), (117, .byte, 3, fun j => .int (v_txb 27 j)), (118, .byte, 2, fun j => .int (v_txb 28 j)), (119, .byte, 3, fun j => .int (v_txb 29 j)), (120, .byte, 3, fun j => .int (v_txb 30 j)), (121, .byte, 3, fun j => .int (v_txb 31 j)), (122, .byte, 4, fun j => .int (v_txb 32 j)), (123, .byte, 3, fun j => .int (v_txb 33 j)), (124, .byte, 4, fun j => .int (v_txb 34 j)), (125, .byte, 5, fun j => .int (v_txb 35 j)), (126, .byte, 4, fun j => .int (v_txb 36 j)), (127, .byte, 2, fun j => .int (v_txb 37 j)), (128, .byte, 6, fun j => .int (v_txb 38 j))]
/-- what this claim's proofs rest on: classes, array types, statics, the tables' words, static arrays -/
def v_ts : List Cond := lw_tbl.filter goodWord
def vct : List (String × String) := [("java/lang/IllegalArgumentException", "java/lang/IllegalArgumentException"), ("java/lang/IllegalStateException", "java/lang/IllegalStateException"), ("[I", "java/lang/Cloneable"), ("[B", "java/lang/Cloneable"), ("java/lang/IndexOutOfBoundsException", "java/lang/IndexOutOfBoundsException"), ("NumberFunctions$Powers", "NumberFunctions$Function"), ("NumberFunctions$Program", "NumberFunctions$Function"), ("NumberFunctions$Samples", "NumberFunctions$Function"), ("NumberFunctions$Stitched", "NumberFunctions$Function")]
def vdc : List MethodName := [⟨"java/lang/RuntimeException", "<init>", "()V"⟩, ⟨"java/lang/RuntimeException", "<init>", "(Ljava/lang/String;)V"⟩, ⟨"java/lang/Exception", "<init>", "()V"⟩, ⟨"java/lang/Exception", "<init>", "(Ljava/lang/String;)V"⟩, ⟨"java/lang/Throwable", "<init>", "()V"⟩, ⟨"java/lang/Throwable", "<init>", "(Ljava/lang/String;)V"⟩, ⟨"NumberFunctions$Function", "evaluate", "([I[ILNumberFunctions$Fault;)V"⟩, ⟨"NumberFunctions$Function", "withinPair", "(II)I"⟩, ⟨"java/lang/Enum", "ordinal", "()I"⟩]
def vao : List String := ["NumberFunctions$Function", "NumberFunctions$Word"]
def vsr : List (String × Nat × String × Nat) := [("NumberFunctions", 70, "the row cannot have fewer than no bytes", 78), ("NumberFunctions", 85, "not a number of -2^30 to 2^30", 79), ("NumberFunctions", 92, "the telling is full", 80), ("NumberFunctions", 102, "no such kind, or not of so many inputs", 81), ("NumberFunctions", 104, "not of so many outputs", 82), ("NumberFunctions", 106, "there are as many functions as there can be", 83), ("NumberFunctions", 116, "no such input, or not a number of -2^30 to 2^30", 84), ("NumberFunctions", 120, "there is no such function", 85), ("NumberFunctions", 139, "no such output", 86), ("NumberFunctionsModel", 186, "if", 76), ("NumberFunctionsModel", 192, "ifelse", 77), ("NumberFunctionsModel", 231, "abs", 44), ("NumberFunctionsModel", 233, "neg", 45), ("NumberFunctionsModel", 235, "ceiling", 46), ("NumberFunctionsModel", 237, "floor", 47), ("NumberFunctionsModel", 239, "round", 48), ("NumberFunctionsModel", 241, "truncate", 49), ("NumberFunctionsModel", 243, "cvi", 50), ("NumberFunctionsModel", 245, "cvr", 51), ("NumberFunctionsModel", 247, "sqrt", 52), ("NumberFunctionsModel", 249, "add", 53), ("NumberFunctionsModel", 251, "sub", 54), ("NumberFunctionsModel", 253, "mul", 55), ("NumberFunctionsModel", 255, "div", 56), ("NumberFunctionsModel", 257, "idiv", 57), ("NumberFunctionsModel", 259, "mod", 58), ("NumberFunctionsModel", 261, "eq", 60), ("NumberFunctionsModel", 263, "ne", 61), ("NumberFunctionsModel", 265, "gt", 62), ("NumberFunctionsModel", 267, "ge", 63), ("NumberFunctionsModel", 269, "lt", 64), ("NumberFunctionsModel", 271, "le", 65), ("NumberFunctionsModel", 273, "true", 42), ("NumberFunctionsModel", 275, "false", 43), ("NumberFunctionsModel", 277, "and", 66), ("NumberFunctionsModel", 279, "or", 67), ("NumberFunctionsModel", 281, "xor", 68), ("NumberFunctionsModel", 283, "not", 69), ("NumberFunctionsModel", 285, "bitshift", 59), ("NumberFunctionsModel", 287, "pop", 70), ("NumberFunctionsModel", 289, "exch", 71), ("NumberFunctionsModel", 291, "dup", 72), ("NumberFunctionsModel", 293, "copy", 73), ("NumberFunctionsModel", 295, "index", 74), ("NumberFunctionsModel", 297, "roll", 75), ("NumberFunctionsModel", 371, "}", 40), ("NumberFunctionsModel", 369, "{", 39), ("NumberFunctions$Word", 171, "{", 39), ("NumberFunctions$Word", 285, "if", 76), ("NumberFunctions$Word", 288, "ifelse", 77), ("NumberFunctions$Word", 180, "", 41), ("NumberFunctions$Word", 177, "}", 40), ("NumberFunctions$Word", 183, "true", 42), ("NumberFunctions$Word", 213, "sqrt", 52), ("NumberFunctions$Word", 225, "div", 56), ("NumberFunctions$Word", 234, "bitshift", 59), ("NumberFunctions$Word", 228, "idiv", 57), ("NumberFunctions$Word", 237, "eq", 60), ("NumberFunctions$Word", 240, "ne", 61), ("NumberFunctions$Word", 264, "not", 69), ("NumberFunctions$Word", 282, "roll", 75), ("NumberFunctions$Word", 279, "index", 74), ("NumberFunctions$Word", 186, "false", 43), ("NumberFunctions$Word", 189, "abs", 44), ("NumberFunctions$Word", 192, "neg", 45), ("NumberFunctions$Word", 195, "ceiling", 46), ("NumberFunctions$Word", 198, "floor", 47), ("NumberFunctions$Word", 201, "round", 48), ("NumberFunctions$Word", 204, "truncate", 49), ("NumberFunctions$Word", 207, "cvi", 50), ("NumberFunctions$Word", 210, "cvr", 51), ("NumberFunctions$Word", 216, "add", 53), ("NumberFunctions$Word", 219, "sub", 54), ("NumberFunctions$Word", 222, "mul", 55), ("NumberFunctions$Word", 231, "mod", 58), ("NumberFunctions$Word", 243, "gt", 62), ("NumberFunctions$Word", 246, "ge", 63), ("NumberFunctions$Word", 249, "lt", 64), ("NumberFunctions$Word", 252, "le", 65), ("NumberFunctions$Word", 255, "and", 66), ("NumberFunctions$Word", 258, "or", 67), ("NumberFunctions$Word", 261, "xor", 68), ("NumberFunctions$Word", 267, "pop", 70), ("NumberFunctions$Word", 270, "exch", 71), ("NumberFunctions$Word", 273, "dup", 72), ("NumberFunctions$Word", 276, "copy", 73)]
def VV : ax_V := (vcl, vtl, vzs, v_ts, vta, vct, vdc, vao, vsr)
theorem mt1 {w : Cond} (h : w ∈ tables_1_1) (hg : goodWord w = true := by rfl) : w ∈ VV.ts := List.mem_filter.mpr ⟨List.mem_append_right _ (show w ∈ tables_1 from List.mem_append_left _ h), hg⟩
theorem mt2 {w : Cond} (h : w ∈ tables_1_2) (hg : goodWord w = true := by rfl) : w ∈ VV.ts := List.mem_filter.mpr ⟨List.mem_append_right _ (show w ∈ tables_1 from List.mem_append_right _ (List.mem_append_left _ h)), hg⟩
theorem mt3 {w : Cond} (h : w ∈ tables_1_3) (hg : goodWord w = true := by rfl) : w ∈ VV.ts := List.mem_filter.mpr ⟨List.mem_append_right _ (show w ∈ tables_1 from List.mem_append_right _ (List.mem_append_right _ (List.mem_append_left _ h))), hg⟩
theorem mt4 {w : Cond} (h : w ∈ tables_1_4) (hg : goodWord w = true := by rfl) : w ∈ VV.ts := List.mem_filter.mpr ⟨List.mem_append_right _ (show w ∈ tables_1 from List.mem_append_right _ (List.mem_append_right _ (List.mem_append_right _ (List.mem_append_left _ h)))), hg⟩
theorem mt5 {w : Cond} (h : w ∈ tables_1_5) (hg : goodWord w = true := by rfl) : w ∈ VV.ts := List.mem_filter.mpr ⟨List.mem_append_right _ (show w ∈ tables_1 from List.mem_append_right _ (List.mem_append_right _ (List.mem_append_right _ (List.mem_append_right _ (List.mem_append_left _ h))))), hg⟩
theorem mt6 {w : Cond} (h : w ∈ tables_1_6) (hg : goodWord w = true := by rfl) : w ∈ VV.ts := List.mem_filter.mpr ⟨List.mem_append_right _ (show w ∈ tables_1 from List.mem_append_right _ (List.mem_append_right _ (List.mem_append_right _ (List.mem_append_right _ (List.mem_append_right _ (List.mem_append_left _ h)))))), hg⟩
theorem mt7 {w : Cond} (h : w ∈ tables_1_7) (hg : goodWord w = true := by rfl) : w ∈ VV.ts := List.mem_filter.mpr ⟨List.mem_append_right _ (show w ∈ tables_1 from List.mem_append_right _ (List.mem_append_right _ (List.mem_append_right _ (List.mem_append_right _ (List.mem_append_right _ (List.mem_append_right _ (h))))))), hg⟩
theorem v_good : GoodIn VV.ts VV.ts := fun w hw => ⟨hw, good_of_word (List.mem_filter.mp hw).2⟩
end
section
def fl_N : List (Nat × Nat × Nat) := [(95, 1, 0), (87, 1, 1), (133, 2, 0), (141, 2, 1), (9, 0, 0), (13, 0, 1), (20, 0, 2), (26, 0, 3), (30, 0, 4), (33, 0, 5), (37, 0, 6), (40, 0, 7), (46, 0, 8), (53, 0, 9), (60, 0, 10), (136, 5, 6), (136, 6, 1), (136, 7, 2), (136, 8, 7)]
def kl_N : List (Nat × Value) := [(144, .int (-1073741824)), (145, .int (1073741824))]
set_option maxRecDepth 100000 in
theorem fl_N_ok : ax_F VV "NumberFunctions" (ax_al fl_N) := ax_F_of (List.forall_mem_cons.mpr ⟨⟨_, _, _, "NumberFunctions$Telling", rfl, by decide, mt1 (List.mem_of_getElem? (i := 44) rfl), Or.inl rfl⟩, List.forall_mem_cons.mpr ⟨⟨_, _, _, "NumberFunctions$Telling", rfl, by decide, mt1 (List.mem_of_getElem? (i := 46) rfl), Or.inl rfl⟩, List.forall_mem_cons.mpr ⟨⟨_, _, _, "NumberFunctions$Fault", rfl, by decide, mt1 (List.mem_of_getElem? (i := 63) rfl), Or.inl rfl⟩, List.forall_mem_cons.mpr ⟨⟨_, _, _, "NumberFunctions$Fault", rfl, by decide, mt1 (List.mem_of_getElem? (i := 65) rfl), Or.inl rfl⟩, List.forall_mem_cons.mpr ⟨⟨_, _, _, "NumberFunctions", rfl, by decide, mt1 (List.mem_of_getElem? (i := 147) rfl), Or.inl rfl⟩, List.forall_mem_cons.mpr ⟨⟨_, _, _, "NumberFunctions", rfl, by decide, mt1 (List.mem_of_getElem? (i := 148) rfl), Or.inl rfl⟩, List.forall_mem_cons.mpr ⟨⟨_, _, _, "NumberFunctions", rfl, by decide, mt1 (List.mem_of_getElem? (i := 149) rfl), Or.inl rfl⟩, List.forall_mem_cons.mpr ⟨⟨_, _, _, "NumberFunctions", rfl, by decide, mt1 (List.mem_of_getElem? (i := 150) rfl), Or.inl rfl⟩, List.forall_mem_cons.mpr ⟨⟨_, _, _, "NumberFunctions", rfl, by decide, mt1 (List.mem_of_getElem? (i := 151) rfl), Or.inl rfl⟩, List.forall_mem_cons.mpr ⟨⟨_, _, _, "NumberFunctions", rfl, by decide, mt1 (List.mem_of_getElem? (i := 152) rfl), Or.inl rfl⟩, List.forall_mem_cons.mpr ⟨⟨_, _, _, "NumberFunctions", rfl, by decide, mt1 (List.mem_of_getElem? (i := 153) rfl), Or.inl rfl⟩, List.forall_mem_cons.mpr ⟨⟨_, _, _, "NumberFunctions", rfl, by decide, mt1 (List.mem_of_getElem? (i := 154) rfl), Or.inl rfl⟩, List.forall_mem_cons.mpr ⟨⟨_, _, _, "NumberFunctions", rfl, by decide, mt1 (List.mem_of_getElem? (i := 155) rfl), Or.inl rfl⟩, List.forall_mem_cons.mpr ⟨⟨_, _, _, "NumberFunctions", rfl, by decide, mt1 (List.mem_of_getElem? (i := 156) rfl), Or.inl rfl⟩, List.forall_mem_cons.mpr ⟨⟨_, _, _, "NumberFunctions", rfl, by decide, mt1 (List.mem_of_getElem? (i := 157) rfl), Or.inl rfl⟩, List.forall_mem_cons.mpr ⟨⟨_, _, _, "NumberFunctions$Function", rfl, by decide, mt2 (List.mem_of_getElem? (i := 187) rfl), Or.inl rfl⟩, List.forall_mem_cons.mpr ⟨⟨_, _, _, "NumberFunctions$Function", rfl, by decide, mt2 (List.mem_of_getElem? (i := 187) rfl), Or.inl rfl⟩, List.forall_mem_cons.mpr ⟨⟨_, _, _, "NumberFunctions$Function", rfl, by decide, mt2 (List.mem_of_getElem? (i := 187) rfl), Or.inl rfl⟩, List.forall_mem_cons.mpr ⟨⟨_, _, _, "NumberFunctions$Function", rfl, by decide, mt2 (List.mem_of_getElem? (i := 187) rfl), Or.inl rfl⟩, fun _ h => absurd h List.not_mem_nil⟩⟩⟩⟩⟩⟩⟩⟩⟩⟩⟩⟩⟩⟩⟩⟩⟩⟩⟩)
theorem kl_N_ok : ax_PL VV "NumberFunctions" (ax_kl kl_N) := ax_PL_of (List.forall_mem_cons.mpr ⟨mt2 (List.mem_of_getElem? (i := 50) rfl), List.forall_mem_cons.mpr ⟨mt2 (List.mem_of_getElem? (i := 51) rfl), fun _ h => absurd h List.not_mem_nil⟩⟩)
abbrev pl_N : ax_pool := (ax_al fl_N, ax_kl kl_N, false)
abbrev pi_N : ax_pool := (ax_al fl_N, ax_kl kl_N, true)
def fl_JObject : List (Nat × Nat × Nat) := []
def kl_JObject : List (Nat × Value) := []
set_option maxRecDepth 100000 in
theorem fl_JObject_ok : ax_F VV "java/lang/Object" (ax_al fl_JObject) := ax_F_of (fun _ h => absurd h List.not_mem_nil)
theorem kl_JObject_ok : ax_PL VV "java/lang/Object" (ax_kl kl_JObject) := ax_PL_of (fun _ h => absurd h List.not_mem_nil)
abbrev pl_JObject : ax_pool := (ax_al fl_JObject, ax_kl kl_JObject, false)
abbrev pi_JObject : ax_pool := (ax_al fl_JObject, ax_kl kl_JObject, true)
def fl_T : List (Nat × Nat × Nat) := [(9, 1, 0), (15, 1, 1), (38, 5, 5), (38, 6, 0), (38, 7, 1), (38, 8, 6), (43, 5, 6), (43, 6, 1), (43, 7, 2), (43, 8, 7)]
def kl_T : List (Nat × Value) := []
set_option maxRecDepth 100000 in
theorem fl_T_ok : ax_F VV "NumberFunctions$Telling" (ax_al fl_T) := ax_F_of (List.forall_mem_cons.mpr ⟨⟨_, _, _, "NumberFunctions$Telling", rfl, by decide, mt1 (List.mem_of_getElem? (i := 43) rfl), Or.inl rfl⟩, List.forall_mem_cons.mpr ⟨⟨_, _, _, "NumberFunctions$Telling", rfl, by decide, mt1 (List.mem_of_getElem? (i := 45) rfl), Or.inl rfl⟩, List.forall_mem_cons.mpr ⟨⟨_, _, _, "NumberFunctions$Function", rfl, by decide, mt2 (List.mem_of_getElem? (i := 178) rfl), Or.inl rfl⟩, List.forall_mem_cons.mpr ⟨⟨_, _, _, "NumberFunctions$Function", rfl, by decide, mt2 (List.mem_of_getElem? (i := 178) rfl), Or.inl rfl⟩, List.forall_mem_cons.mpr ⟨⟨_, _, _, "NumberFunctions$Function", rfl, by decide, mt2 (List.mem_of_getElem? (i := 178) rfl), Or.inl rfl⟩, List.forall_mem_cons.mpr ⟨⟨_, _, _, "NumberFunctions$Function", rfl, by decide, mt2 (List.mem_of_getElem? (i := 178) rfl), Or.inl rfl⟩, List.forall_mem_cons.mpr ⟨⟨_, _, _, "NumberFunctions$Function", rfl, by decide, mt2 (List.mem_of_getElem? (i := 186) rfl), Or.inl rfl⟩, List.forall_mem_cons.mpr ⟨⟨_, _, _, "NumberFunctions$Function", rfl, by decide, mt2 (List.mem_of_getElem? (i := 186) rfl), Or.inl rfl⟩, List.forall_mem_cons.mpr ⟨⟨_, _, _, "NumberFunctions$Function", rfl, by decide, mt2 (List.mem_of_getElem? (i := 186) rfl), Or.inl rfl⟩, List.forall_mem_cons.mpr ⟨⟨_, _, _, "NumberFunctions$Function", rfl, by decide, mt2 (List.mem_of_getElem? (i := 186) rfl), Or.inl rfl⟩, fun _ h => absurd h List.not_mem_nil⟩⟩⟩⟩⟩⟩⟩⟩⟩⟩)
theorem kl_T_ok : ax_PL VV "NumberFunctions$Telling" (ax_kl kl_T) := ax_PL_of (fun _ h => absurd h List.not_mem_nil)
abbrev pl_T : ax_pool := (ax_al fl_T, ax_kl kl_T, false)
abbrev pi_T : ax_pool := (ax_al fl_T, ax_kl kl_T, true)
def fl_U : List (Nat × Nat × Nat) := [(9, 2, 0), (15, 2, 1)]
def kl_U : List (Nat × Value) := []
set_option maxRecDepth 100000 in
theorem fl_U_ok : ax_F VV "NumberFunctions$Fault" (ax_al fl_U) := ax_F_of (List.forall_mem_cons.mpr ⟨⟨_, _, _, "NumberFunctions$Fault", rfl, by decide, mt1 (List.mem_of_getElem? (i := 62) rfl), Or.inl rfl⟩, List.forall_mem_cons.mpr ⟨⟨_, _, _, "NumberFunctions$Fault", rfl, by decide, mt1 (List.mem_of_getElem? (i := 64) rfl), Or.inl rfl⟩, fun _ h => absurd h List.not_mem_nil⟩⟩)
theorem kl_U_ok : ax_PL VV "NumberFunctions$Fault" (ax_kl kl_U) := ax_PL_of (fun _ h => absurd h List.not_mem_nil)
abbrev pl_U : ax_pool := (ax_al fl_U, ax_kl kl_U, false)
abbrev pi_U : ax_pool := (ax_al fl_U, ax_kl kl_U, true)
def fl_R : List (Nat × Nat × Nat) := [(11, 3, 0), (17, 3, 1), (21, 3, 2), (24, 3, 3), (47, 3, 4), (27, 3, 5), (30, 3, 6), (33, 3, 7), (36, 3, 8), (50, 3, 9), (39, 3, 10), (43, 3, 11), (89, 3, 12), (114, 13, 2)]
def kl_R : List (Nat × Value) := [(127, .int (65536)), (136, .long (10)), (138, .long (65536)), (140, .long (1000000000))]
set_option maxRecDepth 100000 in
theorem fl_R_ok : ax_F VV "NumberFunctions$Reader" (ax_al fl_R) := ax_F_of (List.forall_mem_cons.mpr ⟨⟨_, _, _, "NumberFunctions$Reader", rfl, by decide, mt1 (List.mem_of_getElem? (i := 79) rfl), Or.inl rfl⟩, List.forall_mem_cons.mpr ⟨⟨_, _, _, "NumberFunctions$Reader", rfl, by decide, mt1 (List.mem_of_getElem? (i := 81) rfl), Or.inl rfl⟩, List.forall_mem_cons.mpr ⟨⟨_, _, _, "NumberFunctions$Reader", rfl, by decide, mt1 (List.mem_of_getElem? (i := 83) rfl), Or.inl rfl⟩, List.forall_mem_cons.mpr ⟨⟨_, _, _, "NumberFunctions$Reader", rfl, by decide, mt1 (List.mem_of_getElem? (i := 85) rfl), Or.inl rfl⟩, List.forall_mem_cons.mpr ⟨⟨_, _, _, "NumberFunctions$Reader", rfl, by decide, mt1 (List.mem_of_getElem? (i := 88) rfl), Or.inl rfl⟩, List.forall_mem_cons.mpr ⟨⟨_, _, _, "NumberFunctions$Reader", rfl, by decide, mt1 (List.mem_of_getElem? (i := 89) rfl), Or.inl rfl⟩, List.forall_mem_cons.mpr ⟨⟨_, _, _, "NumberFunctions$Reader", rfl, by decide, mt1 (List.mem_of_getElem? (i := 90) rfl), Or.inl rfl⟩, List.forall_mem_cons.mpr ⟨⟨_, _, _, "NumberFunctions$Reader", rfl, by decide, mt1 (List.mem_of_getElem? (i := 91) rfl), Or.inl rfl⟩, List.forall_mem_cons.mpr ⟨⟨_, _, _, "NumberFunctions$Reader", rfl, by decide, mt1 (List.mem_of_getElem? (i := 92) rfl), Or.inl rfl⟩, List.forall_mem_cons.mpr ⟨⟨_, _, _, "NumberFunctions$Reader", rfl, by decide, mt1 (List.mem_of_getElem? (i := 93) rfl), Or.inl rfl⟩, List.forall_mem_cons.mpr ⟨⟨_, _, _, "NumberFunctions$Reader", rfl, by decide, mt1 (List.mem_of_getElem? (i := 94) rfl), Or.inl rfl⟩, List.forall_mem_cons.mpr ⟨⟨_, _, _, "NumberFunctions$Reader", rfl, by decide, mt1 (List.mem_of_getElem? (i := 95) rfl), Or.inl rfl⟩, List.forall_mem_cons.mpr ⟨⟨_, _, _, "NumberFunctions$Reader", rfl, by decide, mt1 (List.mem_of_getElem? (i := 96) rfl), Or.inl rfl⟩, List.forall_mem_cons.mpr ⟨⟨_, _, _, "NumberFunctions$Word", rfl, by decide, mt6 (List.mem_of_getElem? (i := 187) rfl), Or.inl rfl⟩, fun _ h => absurd h List.not_mem_nil⟩⟩⟩⟩⟩⟩⟩⟩⟩⟩⟩⟩⟩⟩)
theorem kl_R_ok : ax_PL VV "NumberFunctions$Reader" (ax_kl kl_R) := ax_PL_of (List.forall_mem_cons.mpr ⟨mt3 (List.mem_of_getElem? (i := 101) rfl), List.forall_mem_cons.mpr ⟨mt3 (List.mem_of_getElem? (i := 106) rfl), List.forall_mem_cons.mpr ⟨mt3 (List.mem_of_getElem? (i := 107) rfl), List.forall_mem_cons.mpr ⟨mt3 (List.mem_of_getElem? (i := 108) rfl), fun _ h => absurd h List.not_mem_nil⟩⟩⟩⟩)
abbrev pl_R : ax_pool := (ax_al fl_R, ax_kl kl_R, false)
abbrev pi_R : ax_pool := (ax_al fl_R, ax_kl kl_R, true)
def fl_K : List (Nat × Nat × Nat) := [(9, 4, 0), (15, 4, 1), (19, 4, 2), (192, 4, 3), (23, 13, 1), (28, 13, 2)]
def kl_K : List (Nat × Value) := [(117, .int (32768)), (141, .int (65536)), (154, .long (65536))]
set_option maxRecDepth 100000 in
theorem fl_K_ok : ax_F VV "NumberFunctions$Machine" (ax_al fl_K) := ax_F_of (List.forall_mem_cons.mpr ⟨⟨_, _, _, "NumberFunctions$Machine", rfl, by decide, mt1 (List.mem_of_getElem? (i := 130) rfl), Or.inl rfl⟩, List.forall_mem_cons.mpr ⟨⟨_, _, _, "NumberFunctions$Machine", rfl, by decide, mt1 (List.mem_of_getElem? (i := 132) rfl), Or.inl rfl⟩, List.forall_mem_cons.mpr ⟨⟨_, _, _, "NumberFunctions$Machine", rfl, by decide, mt1 (List.mem_of_getElem? (i := 133) rfl), Or.inl rfl⟩, List.forall_mem_cons.mpr ⟨⟨_, _, _, "NumberFunctions$Machine", rfl, by decide, mt1 (List.mem_of_getElem? (i := 136) rfl), Or.inl rfl⟩, List.forall_mem_cons.mpr ⟨⟨_, _, _, "NumberFunctions$Word", rfl, by decide, mt6 (List.mem_of_getElem? (i := 188) rfl), Or.inl rfl⟩, List.forall_mem_cons.mpr ⟨⟨_, _, _, "NumberFunctions$Word", rfl, by decide, mt6 (List.mem_of_getElem? (i := 189) rfl), Or.inl rfl⟩, fun _ h => absurd h List.not_mem_nil⟩⟩⟩⟩⟩⟩)
theorem kl_K_ok : ax_PL VV "NumberFunctions$Machine" (ax_kl kl_K) := ax_PL_of (List.forall_mem_cons.mpr ⟨mt4 (List.mem_of_getElem? (i := 34) rfl), List.forall_mem_cons.mpr ⟨mt4 (List.mem_of_getElem? (i := 67) rfl), List.forall_mem_cons.mpr ⟨mt4 (List.mem_of_getElem? (i := 77) rfl), fun _ h => absurd h List.not_mem_nil⟩⟩⟩)
abbrev pl_K : ax_pool := (ax_al fl_K, ax_kl kl_K, false)
abbrev pi_K : ax_pool := (ax_al fl_K, ax_kl kl_K, true)
def fl_L : List (Nat × Nat × Nat) := []
def kl_L : List (Nat × Value) := []
set_option maxRecDepth 100000 in
theorem fl_L_ok : ax_F VV "NumberFunctionsLaw" (ax_al fl_L) := ax_F_of (fun _ h => absurd h List.not_mem_nil)
theorem kl_L_ok : ax_PL VV "NumberFunctionsLaw" (ax_kl kl_L) := ax_PL_of (fun _ h => absurd h List.not_mem_nil)
abbrev pl_L : ax_pool := (ax_al fl_L, ax_kl kl_L, false)
abbrev pi_L : ax_pool := (ax_al fl_L, ax_kl kl_L, true)
def fl_JThrowable : List (Nat × Nat × Nat) := [(198, 10, 4), (198, 11, 4), (198, 12, 4), (198, 10, 4), (198, 11, 4), (198, 12, 4), (31, 10, 3), (31, 11, 3), (31, 12, 3), (7, 10, 0), (7, 11, 0), (7, 12, 0), (17, 10, 1), (17, 11, 1), (17, 12, 1), (24, 10, 2), (24, 11, 2), (24, 12, 2)]
def kl_JThrowable : List (Nat × Value) := []
set_option maxRecDepth 100000 in
theorem fl_JThrowable_ok : ax_F VV "java/lang/Throwable" (ax_al fl_JThrowable) := ax_F_of (List.forall_mem_cons.mpr ⟨⟨_, _, _, "java/lang/Throwable", rfl, by decide, mt1 (List.mem_of_getElem? (i := 230) rfl), Or.inl rfl⟩, List.forall_mem_cons.mpr ⟨⟨_, _, _, "java/lang/Throwable", rfl, by decide, mt1 (List.mem_of_getElem? (i := 230) rfl), Or.inl rfl⟩, List.forall_mem_cons.mpr ⟨⟨_, _, _, "java/lang/Throwable", rfl, by decide, mt1 (List.mem_of_getElem? (i := 230) rfl), Or.inl rfl⟩, List.forall_mem_cons.mpr ⟨⟨_, _, _, "java/lang/Throwable", rfl, by decide, mt2 (List.mem_of_getElem? (i := 23) rfl), Or.inl rfl⟩, List.forall_mem_cons.mpr ⟨⟨_, _, _, "java/lang/Throwable", rfl, by decide, mt2 (List.mem_of_getElem? (i := 23) rfl), Or.inl rfl⟩, List.forall_mem_cons.mpr ⟨⟨_, _, _, "java/lang/Throwable", rfl, by decide, mt2 (List.mem_of_getElem? (i := 23) rfl), Or.inl rfl⟩, List.forall_mem_cons.mpr ⟨⟨_, _, _, "java/lang/Throwable", rfl, by decide, mt2 (List.mem_of_getElem? (i := 24) rfl), Or.inl rfl⟩, List.forall_mem_cons.mpr ⟨⟨_, _, _, "java/lang/Throwable", rfl, by decide, mt2 (List.mem_of_getElem? (i := 24) rfl), Or.inl rfl⟩, List.forall_mem_cons.mpr ⟨⟨_, _, _, "java/lang/Throwable", rfl, by decide, mt2 (List.mem_of_getElem? (i := 24) rfl), Or.inl rfl⟩, List.forall_mem_cons.mpr ⟨⟨_, _, _, "java/lang/Throwable", rfl, by decide, mt2 (List.mem_of_getElem? (i := 25) rfl), Or.inl rfl⟩, List.forall_mem_cons.mpr ⟨⟨_, _, _, "java/lang/Throwable", rfl, by decide, mt2 (List.mem_of_getElem? (i := 25) rfl), Or.inl rfl⟩, List.forall_mem_cons.mpr ⟨⟨_, _, _, "java/lang/Throwable", rfl, by decide, mt2 (List.mem_of_getElem? (i := 25) rfl), Or.inl rfl⟩, List.forall_mem_cons.mpr ⟨⟨_, _, _, "java/lang/Throwable", rfl, by decide, mt2 (List.mem_of_getElem? (i := 26) rfl), Or.inl rfl⟩, List.forall_mem_cons.mpr ⟨⟨_, _, _, "java/lang/Throwable", rfl, by decide, mt2 (List.mem_of_getElem? (i := 26) rfl), Or.inl rfl⟩, List.forall_mem_cons.mpr ⟨⟨_, _, _, "java/lang/Throwable", rfl, by decide, mt2 (List.mem_of_getElem? (i := 26) rfl), Or.inl rfl⟩, List.forall_mem_cons.mpr ⟨⟨_, _, _, "java/lang/Throwable", rfl, by decide, mt2 (List.mem_of_getElem? (i := 27) rfl), Or.inl rfl⟩, List.forall_mem_cons.mpr ⟨⟨_, _, _, "java/lang/Throwable", rfl, by decide, mt2 (List.mem_of_getElem? (i := 27) rfl), Or.inl rfl⟩, List.forall_mem_cons.mpr ⟨⟨_, _, _, "java/lang/Throwable", rfl, by decide, mt2 (List.mem_of_getElem? (i := 27) rfl), Or.inl rfl⟩, fun _ h => absurd h List.not_mem_nil⟩⟩⟩⟩⟩⟩⟩⟩⟩⟩⟩⟩⟩⟩⟩⟩⟩⟩)
theorem kl_JThrowable_ok : ax_PL VV "java/lang/Throwable" (ax_kl kl_JThrowable) := ax_PL_of (fun _ h => absurd h List.not_mem_nil)
abbrev pl_JThrowable : ax_pool := (ax_al fl_JThrowable, ax_kl kl_JThrowable, false)
abbrev pi_JThrowable : ax_pool := (ax_al fl_JThrowable, ax_kl kl_JThrowable, true)
def fl_JIllegalArgumentException : List (Nat × Nat × Nat) := []
def kl_JIllegalArgumentException : List (Nat × Value) := []
set_option maxRecDepth 100000 in
theorem fl_JIllegalArgumentException_ok : ax_F VV "java/lang/IllegalArgumentException" (ax_al fl_JIllegalArgumentException) := ax_F_of (fun _ h => absurd h List.not_mem_nil)
theorem kl_JIllegalArgumentException_ok : ax_PL VV "java/lang/IllegalArgumentException" (ax_kl kl_JIllegalArgumentException) := ax_PL_of (fun _ h => absurd h List.not_mem_nil)
abbrev pl_JIllegalArgumentException : ax_pool := (ax_al fl_JIllegalArgumentException, ax_kl kl_JIllegalArgumentException, false)
abbrev pi_JIllegalArgumentException : ax_pool := (ax_al fl_JIllegalArgumentException, ax_kl kl_JIllegalArgumentException, true)
def fl_JRuntimeException : List (Nat × Nat × Nat) := []
def kl_JRuntimeException : List (Nat × Value) := []
set_option maxRecDepth 100000 in
theorem fl_JRuntimeException_ok : ax_F VV "java/lang/RuntimeException" (ax_al fl_JRuntimeException) := ax_F_of (fun _ h => absurd h List.not_mem_nil)
theorem kl_JRuntimeException_ok : ax_PL VV "java/lang/RuntimeException" (ax_kl kl_JRuntimeException) := ax_PL_of (fun _ h => absurd h List.not_mem_nil)
abbrev pl_JRuntimeException : ax_pool := (ax_al fl_JRuntimeException, ax_kl kl_JRuntimeException, false)
abbrev pi_JRuntimeException : ax_pool := (ax_al fl_JRuntimeException, ax_kl kl_JRuntimeException, true)
def fl_JException : List (Nat × Nat × Nat) := []
def kl_JException : List (Nat × Value) := []
set_option maxRecDepth 100000 in
theorem fl_JException_ok : ax_F VV "java/lang/Exception" (ax_al fl_JException) := ax_F_of (fun _ h => absurd h List.not_mem_nil)
theorem kl_JException_ok : ax_PL VV "java/lang/Exception" (ax_kl kl_JException) := ax_PL_of (fun _ h => absurd h List.not_mem_nil)
abbrev pl_JException : ax_pool := (ax_al fl_JException, ax_kl kl_JException, false)
abbrev pi_JException : ax_pool := (ax_al fl_JException, ax_kl kl_JException, true)
def fl_JMath : List (Nat × Nat × Nat) := []
def kl_JMath : List (Nat × Value) := []
set_option maxRecDepth 100000 in
theorem fl_JMath_ok : ax_F VV "java/lang/Math" (ax_al fl_JMath) := ax_F_of (fun _ h => absurd h List.not_mem_nil)
theorem kl_JMath_ok : ax_PL VV "java/lang/Math" (ax_kl kl_JMath) := ax_PL_of (fun _ h => absurd h List.not_mem_nil)
abbrev pl_JMath : ax_pool := (ax_al fl_JMath, ax_kl kl_JMath, false)
abbrev pi_JMath : ax_pool := (ax_al fl_JMath, ax_kl kl_JMath, true)
def fl_JIllegalStateException : List (Nat × Nat × Nat) := []
def kl_JIllegalStateException : List (Nat × Value) := []
set_option maxRecDepth 100000 in
theorem fl_JIllegalStateException_ok : ax_F VV "java/lang/IllegalStateException" (ax_al fl_JIllegalStateException) := ax_F_of (fun _ h => absurd h List.not_mem_nil)
theorem kl_JIllegalStateException_ok : ax_PL VV "java/lang/IllegalStateException" (ax_kl kl_JIllegalStateException) := ax_PL_of (fun _ h => absurd h List.not_mem_nil)
abbrev pl_JIllegalStateException : ax_pool := (ax_al fl_JIllegalStateException, ax_kl kl_JIllegalStateException, false)
abbrev pi_JIllegalStateException : ax_pool := (ax_al fl_JIllegalStateException, ax_kl kl_JIllegalStateException, true)
def fl_JArrays : List (Nat × Nat × Nat) := []
def kl_JArrays : List (Nat × Value) := []
set_option maxRecDepth 100000 in
theorem fl_JArrays_ok : ax_F VV "java/util/Arrays" (ax_al fl_JArrays) := ax_F_of (fun _ h => absurd h List.not_mem_nil)
theorem kl_JArrays_ok : ax_PL VV "java/util/Arrays" (ax_kl kl_JArrays) := ax_PL_of (fun _ h => absurd h List.not_mem_nil)
abbrev pl_JArrays : ax_pool := (ax_al fl_JArrays, ax_kl kl_JArrays, false)
abbrev pi_JArrays : ax_pool := (ax_al fl_JArrays, ax_kl kl_JArrays, true)
def fl_S : List (Nat × Nat × Nat) := [(22, 5, 0), (26, 5, 1), (9, 5, 2), (15, 5, 3), (18, 5, 4), (30, 5, 5), (39, 5, 6), (46, 5, 7)]
def kl_S : List (Nat × Value) := [(37, .long (65536)), (63, .int (65536)), (76, .long (2))]
set_option maxRecDepth 100000 in
theorem fl_S_ok : ax_F VV "NumberFunctions$Samples" (ax_al fl_S) := ax_F_of (List.forall_mem_cons.mpr ⟨⟨_, _, _, "NumberFunctions$Samples", rfl, by decide, mt2 (List.mem_of_getElem? (i := 168) rfl), Or.inl rfl⟩, List.forall_mem_cons.mpr ⟨⟨_, _, _, "NumberFunctions$Samples", rfl, by decide, mt2 (List.mem_of_getElem? (i := 169) rfl), Or.inl rfl⟩, List.forall_mem_cons.mpr ⟨⟨_, _, _, "NumberFunctions$Samples", rfl, by decide, mt2 (List.mem_of_getElem? (i := 170) rfl), Or.inl rfl⟩, List.forall_mem_cons.mpr ⟨⟨_, _, _, "NumberFunctions$Samples", rfl, by decide, mt2 (List.mem_of_getElem? (i := 171) rfl), Or.inl rfl⟩, List.forall_mem_cons.mpr ⟨⟨_, _, _, "NumberFunctions$Samples", rfl, by decide, mt2 (List.mem_of_getElem? (i := 172) rfl), Or.inl rfl⟩, List.forall_mem_cons.mpr ⟨⟨_, _, _, "NumberFunctions$Samples", rfl, by decide, mt2 (List.mem_of_getElem? (i := 176) rfl), Or.inr (mt2 (List.mem_of_getElem? (i := 177) rfl))⟩, List.forall_mem_cons.mpr ⟨⟨_, _, _, "NumberFunctions$Samples", rfl, by decide, mt2 (List.mem_of_getElem? (i := 184) rfl), Or.inr (mt2 (List.mem_of_getElem? (i := 185) rfl))⟩, List.forall_mem_cons.mpr ⟨⟨_, _, _, "NumberFunctions$Samples", rfl, by decide, mt2 (List.mem_of_getElem? (i := 193) rfl), Or.inr (mt2 (List.mem_of_getElem? (i := 194) rfl))⟩, fun _ h => absurd h List.not_mem_nil⟩⟩⟩⟩⟩⟩⟩⟩)
theorem kl_S_ok : ax_PL VV "NumberFunctions$Samples" (ax_kl kl_S) := ax_PL_of (List.forall_mem_cons.mpr ⟨mt4 (List.mem_of_getElem? (i := 162) rfl), List.forall_mem_cons.mpr ⟨mt4 (List.mem_of_getElem? (i := 164) rfl), List.forall_mem_cons.mpr ⟨mt4 (List.mem_of_getElem? (i := 178) rfl), fun _ h => absurd h List.not_mem_nil⟩⟩⟩)
abbrev pl_S : ax_pool := (ax_al fl_S, ax_kl kl_S, false)
abbrev pi_S : ax_pool := (ax_al fl_S, ax_kl kl_S, true)
def fl_F : List (Nat × Nat × Nat) := [(7, 5, 5), (7, 6, 0), (7, 7, 1), (7, 8, 6), (13, 5, 6), (13, 6, 1), (13, 7, 2), (13, 8, 7), (16, 5, 7), (16, 6, 2), (16, 7, 3), (16, 8, 8)]
def kl_F : List (Nat × Value) := []
set_option maxRecDepth 100000 in
theorem fl_F_ok : ax_F VV "NumberFunctions$Function" (ax_al fl_F) := ax_F_of (List.forall_mem_cons.mpr ⟨⟨_, _, _, "NumberFunctions$Function", rfl, by decide, mt2 (List.mem_of_getElem? (i := 173) rfl), Or.inl rfl⟩, List.forall_mem_cons.mpr ⟨⟨_, _, _, "NumberFunctions$Function", rfl, by decide, mt2 (List.mem_of_getElem? (i := 173) rfl), Or.inl rfl⟩, List.forall_mem_cons.mpr ⟨⟨_, _, _, "NumberFunctions$Function", rfl, by decide, mt2 (List.mem_of_getElem? (i := 173) rfl), Or.inl rfl⟩, List.forall_mem_cons.mpr ⟨⟨_, _, _, "NumberFunctions$Function", rfl, by decide, mt2 (List.mem_of_getElem? (i := 173) rfl), Or.inl rfl⟩, List.forall_mem_cons.mpr ⟨⟨_, _, _, "NumberFunctions$Function", rfl, by decide, mt2 (List.mem_of_getElem? (i := 179) rfl), Or.inl rfl⟩, List.forall_mem_cons.mpr ⟨⟨_, _, _, "NumberFunctions$Function", rfl, by decide, mt2 (List.mem_of_getElem? (i := 179) rfl), Or.inl rfl⟩, List.forall_mem_cons.mpr ⟨⟨_, _, _, "NumberFunctions$Function", rfl, by decide, mt2 (List.mem_of_getElem? (i := 179) rfl), Or.inl rfl⟩, List.forall_mem_cons.mpr ⟨⟨_, _, _, "NumberFunctions$Function", rfl, by decide, mt2 (List.mem_of_getElem? (i := 179) rfl), Or.inl rfl⟩, List.forall_mem_cons.mpr ⟨⟨_, _, _, "NumberFunctions$Function", rfl, by decide, mt2 (List.mem_of_getElem? (i := 188) rfl), Or.inl rfl⟩, List.forall_mem_cons.mpr ⟨⟨_, _, _, "NumberFunctions$Function", rfl, by decide, mt2 (List.mem_of_getElem? (i := 188) rfl), Or.inl rfl⟩, List.forall_mem_cons.mpr ⟨⟨_, _, _, "NumberFunctions$Function", rfl, by decide, mt2 (List.mem_of_getElem? (i := 188) rfl), Or.inl rfl⟩, List.forall_mem_cons.mpr ⟨⟨_, _, _, "NumberFunctions$Function", rfl, by decide, mt2 (List.mem_of_getElem? (i := 188) rfl), Or.inl rfl⟩, fun _ h => absurd h List.not_mem_nil⟩⟩⟩⟩⟩⟩⟩⟩⟩⟩⟩⟩)
theorem kl_F_ok : ax_PL VV "NumberFunctions$Function" (ax_kl kl_F) := ax_PL_of (fun _ h => absurd h List.not_mem_nil)
abbrev pl_F : ax_pool := (ax_al fl_F, ax_kl kl_F, false)
abbrev pi_F : ax_pool := (ax_al fl_F, ax_kl kl_F, true)
def fl_P : List (Nat × Nat × Nat) := [(25, 6, 1), (16, 6, 2)]
def kl_P : List (Nat × Value) := [(15, .int (65536))]
set_option maxRecDepth 100000 in
theorem fl_P_ok : ax_F VV "NumberFunctions$Powers" (ax_al fl_P) := ax_F_of (List.forall_mem_cons.mpr ⟨⟨_, _, _, "NumberFunctions$Powers", rfl, by decide, mt2 (List.mem_of_getElem? (i := 180) rfl), Or.inr (mt2 (List.mem_of_getElem? (i := 181) rfl))⟩, List.forall_mem_cons.mpr ⟨⟨_, _, _, "NumberFunctions$Powers", rfl, by decide, mt2 (List.mem_of_getElem? (i := 189) rfl), Or.inr (mt2 (List.mem_of_getElem? (i := 190) rfl))⟩, fun _ h => absurd h List.not_mem_nil⟩⟩)
theorem kl_P_ok : ax_PL VV "NumberFunctions$Powers" (ax_kl kl_P) := ax_PL_of (List.forall_mem_cons.mpr ⟨mt3 (List.mem_of_getElem? (i := 211) rfl), fun _ h => absurd h List.not_mem_nil⟩)
abbrev pl_P : ax_pool := (ax_al fl_P, ax_kl kl_P, false)
abbrev pi_P : ax_pool := (ax_al fl_P, ax_kl kl_P, true)
def fl_Z : List (Nat × Nat × Nat) := [(19, 7, 3), (9, 7, 0)]
def kl_Z : List (Nat × Value) := []
set_option maxRecDepth 100000 in
theorem fl_Z_ok : ax_F VV "NumberFunctions$Stitched" (ax_al fl_Z) := ax_F_of (List.forall_mem_cons.mpr ⟨⟨_, _, _, "NumberFunctions$Stitched", rfl, by decide, mt2 (List.mem_of_getElem? (i := 191) rfl), Or.inr (mt2 (List.mem_of_getElem? (i := 192) rfl))⟩, List.forall_mem_cons.mpr ⟨⟨_, _, _, "NumberFunctions$Stitched", rfl, by decide, mt2 (List.mem_of_getElem? (i := 230) rfl), Or.inl rfl⟩, fun _ h => absurd h List.not_mem_nil⟩⟩)
theorem kl_Z_ok : ax_PL VV "NumberFunctions$Stitched" (ax_kl kl_Z) := ax_PL_of (fun _ h => absurd h List.not_mem_nil)
abbrev pl_Z : ax_pool := (ax_al fl_Z, ax_kl kl_Z, false)
abbrev pi_Z : ax_pool := (ax_al fl_Z, ax_kl kl_Z, true)
def fl_O : List (Nat × Nat × Nat) := [(142, 13, 0)]
def kl_O : List (Nat × Value) := []
set_option maxRecDepth 100000 in
theorem fl_O_ok : ax_F VV "NumberFunctions$Word" (ax_al fl_O) := ax_F_of (List.forall_mem_cons.mpr ⟨⟨_, _, _, "NumberFunctions$Word", rfl, by decide, mt6 (List.mem_of_getElem? (i := 184) rfl), Or.inl rfl⟩, fun _ h => absurd h List.not_mem_nil⟩)
theorem kl_O_ok : ax_PL VV "NumberFunctions$Word" (ax_kl kl_O) := ax_PL_of (fun _ h => absurd h List.not_mem_nil)
abbrev pl_O : ax_pool := (ax_al fl_O, ax_kl kl_O, false)
abbrev pi_O : ax_pool := (ax_al fl_O, ax_kl kl_O, true)
def fl_JString : List (Nat × Nat × Nat) := [(9, 14, 0), (15, 14, 1)]
def kl_JString : List (Nat × Value) := []
set_option maxRecDepth 100000 in
theorem fl_JString_ok : ax_F VV "java/lang/String" (ax_al fl_JString) := ax_F_of (List.forall_mem_cons.mpr ⟨⟨_, _, _, "java/lang/String", rfl, by decide, mt6 (List.mem_of_getElem? (i := 185) rfl), Or.inl rfl⟩, List.forall_mem_cons.mpr ⟨⟨_, _, _, "java/lang/String", rfl, by decide, mt6 (List.mem_of_getElem? (i := 186) rfl), Or.inl rfl⟩, fun _ h => absurd h List.not_mem_nil⟩⟩)
theorem kl_JString_ok : ax_PL VV "java/lang/String" (ax_kl kl_JString) := ax_PL_of (fun _ h => absurd h List.not_mem_nil)
abbrev pl_JString : ax_pool := (ax_al fl_JString, ax_kl kl_JString, false)
abbrev pi_JString : ax_pool := (ax_al fl_JString, ax_kl kl_JString, true)
def fl_JStringLatin1 : List (Nat × Nat × Nat) := []
def kl_JStringLatin1 : List (Nat × Value) := []
set_option maxRecDepth 100000 in
theorem fl_JStringLatin1_ok : ax_F VV "java/lang/StringLatin1" (ax_al fl_JStringLatin1) := ax_F_of (fun _ h => absurd h List.not_mem_nil)
theorem kl_JStringLatin1_ok : ax_PL VV "java/lang/StringLatin1" (ax_kl kl_JStringLatin1) := ax_PL_of (fun _ h => absurd h List.not_mem_nil)
abbrev pl_JStringLatin1 : ax_pool := (ax_al fl_JStringLatin1, ax_kl kl_JStringLatin1, false)
abbrev pi_JStringLatin1 : ax_pool := (ax_al fl_JStringLatin1, ax_kl kl_JStringLatin1, true)
def fl_JPreconditions : List (Nat × Nat × Nat) := []
def kl_JPreconditions : List (Nat × Value) := []
set_option maxRecDepth 100000 in
theorem fl_JPreconditions_ok : ax_F VV "jdk/internal/util/Preconditions" (ax_al fl_JPreconditions) := ax_F_of (fun _ h => absurd h List.not_mem_nil)
theorem kl_JPreconditions_ok : ax_PL VV "jdk/internal/util/Preconditions" (ax_kl kl_JPreconditions) := ax_PL_of (fun _ h => absurd h List.not_mem_nil)
abbrev pl_JPreconditions : ax_pool := (ax_al fl_JPreconditions, ax_kl kl_JPreconditions, false)
abbrev pi_JPreconditions : ax_pool := (ax_al fl_JPreconditions, ax_kl kl_JPreconditions, true)
def fl_JStringUTF16 : List (Nat × Nat × Nat) := []
def kl_JStringUTF16 : List (Nat × Value) := []
set_option maxRecDepth 100000 in
theorem fl_JStringUTF16_ok : ax_F VV "java/lang/StringUTF16" (ax_al fl_JStringUTF16) := ax_F_of (fun _ h => absurd h List.not_mem_nil)
theorem kl_JStringUTF16_ok : ax_PL VV "java/lang/StringUTF16" (ax_kl kl_JStringUTF16) := ax_PL_of (fun _ h => absurd h List.not_mem_nil)
abbrev pl_JStringUTF16 : ax_pool := (ax_al fl_JStringUTF16, ax_kl kl_JStringUTF16, false)
abbrev pi_JStringUTF16 : ax_pool := (ax_al fl_JStringUTF16, ax_kl kl_JStringUTF16, true)
def fl_G : List (Nat × Nat × Nat) := [(28, 3, 0), (35, 3, 1), (46, 3, 2), (50, 3, 3), (15, 3, 4), (98, 4, 0), (54, 4, 2), (83, 4, 3), (59, 8, 6), (91, 8, 7), (21, 8, 0), (24, 8, 1), (45, 8, 2), (49, 8, 3), (53, 8, 4), (9, 8, 5), (80, 13, 2)]
def kl_G : List (Nat × Value) := []
set_option maxRecDepth 100000 in
theorem fl_G_ok : ax_F VV "NumberFunctions$Program" (ax_al fl_G) := ax_F_of (List.forall_mem_cons.mpr ⟨⟨_, _, _, "NumberFunctions$Reader", rfl, by decide, mt1 (List.mem_of_getElem? (i := 80) rfl), Or.inl rfl⟩, List.forall_mem_cons.mpr ⟨⟨_, _, _, "NumberFunctions$Reader", rfl, by decide, mt1 (List.mem_of_getElem? (i := 82) rfl), Or.inl rfl⟩, List.forall_mem_cons.mpr ⟨⟨_, _, _, "NumberFunctions$Reader", rfl, by decide, mt1 (List.mem_of_getElem? (i := 84) rfl), Or.inl rfl⟩, List.forall_mem_cons.mpr ⟨⟨_, _, _, "NumberFunctions$Reader", rfl, by decide, mt1 (List.mem_of_getElem? (i := 86) rfl), Or.inl rfl⟩, List.forall_mem_cons.mpr ⟨⟨_, _, _, "NumberFunctions$Reader", rfl, by decide, mt1 (List.mem_of_getElem? (i := 87) rfl), Or.inl rfl⟩, List.forall_mem_cons.mpr ⟨⟨_, _, _, "NumberFunctions$Machine", rfl, by decide, mt1 (List.mem_of_getElem? (i := 131) rfl), Or.inl rfl⟩, List.forall_mem_cons.mpr ⟨⟨_, _, _, "NumberFunctions$Machine", rfl, by decide, mt1 (List.mem_of_getElem? (i := 134) rfl), Or.inl rfl⟩, List.forall_mem_cons.mpr ⟨⟨_, _, _, "NumberFunctions$Machine", rfl, by decide, mt1 (List.mem_of_getElem? (i := 135) rfl), Or.inl rfl⟩, List.forall_mem_cons.mpr ⟨⟨_, _, _, "NumberFunctions$Program", rfl, by decide, mt2 (List.mem_of_getElem? (i := 174) rfl), Or.inr (mt2 (List.mem_of_getElem? (i := 175) rfl))⟩, List.forall_mem_cons.mpr ⟨⟨_, _, _, "NumberFunctions$Program", rfl, by decide, mt2 (List.mem_of_getElem? (i := 182) rfl), Or.inr (mt2 (List.mem_of_getElem? (i := 183) rfl))⟩, List.forall_mem_cons.mpr ⟨⟨_, _, _, "NumberFunctions$Program", rfl, by decide, mt3 (List.mem_of_getElem? (i := 135) rfl), Or.inl rfl⟩, List.forall_mem_cons.mpr ⟨⟨_, _, _, "NumberFunctions$Program", rfl, by decide, mt3 (List.mem_of_getElem? (i := 136) rfl), Or.inl rfl⟩, List.forall_mem_cons.mpr ⟨⟨_, _, _, "NumberFunctions$Program", rfl, by decide, mt3 (List.mem_of_getElem? (i := 137) rfl), Or.inl rfl⟩, List.forall_mem_cons.mpr ⟨⟨_, _, _, "NumberFunctions$Program", rfl, by decide, mt3 (List.mem_of_getElem? (i := 138) rfl), Or.inl rfl⟩, List.forall_mem_cons.mpr ⟨⟨_, _, _, "NumberFunctions$Program", rfl, by decide, mt3 (List.mem_of_getElem? (i := 139) rfl), Or.inl rfl⟩, List.forall_mem_cons.mpr ⟨⟨_, _, _, "NumberFunctions$Program", rfl, by decide, mt3 (List.mem_of_getElem? (i := 140) rfl), Or.inl rfl⟩, List.forall_mem_cons.mpr ⟨⟨_, _, _, "NumberFunctions$Word", rfl, by decide, mt6 (List.mem_of_getElem? (i := 191) rfl), Or.inl rfl⟩, fun _ h => absurd h List.not_mem_nil⟩⟩⟩⟩⟩⟩⟩⟩⟩⟩⟩⟩⟩⟩⟩⟩⟩)
theorem kl_G_ok : ax_PL VV "NumberFunctions$Program" (ax_kl kl_G) := ax_PL_of (fun _ h => absurd h List.not_mem_nil)
abbrev pl_G : ax_pool := (ax_al fl_G, ax_kl kl_G, false)
abbrev pi_G : ax_pool := (ax_al fl_G, ax_kl kl_G, true)
def fl_JIndexOutOfBoundsException : List (Nat × Nat × Nat) := []
def kl_JIndexOutOfBoundsException : List (Nat × Value) := []
set_option maxRecDepth 100000 in
theorem fl_JIndexOutOfBoundsException_ok : ax_F VV "java/lang/IndexOutOfBoundsException" (ax_al fl_JIndexOutOfBoundsException) := ax_F_of (fun _ h => absurd h List.not_mem_nil)
theorem kl_JIndexOutOfBoundsException_ok : ax_PL VV "java/lang/IndexOutOfBoundsException" (ax_kl kl_JIndexOutOfBoundsException) := ax_PL_of (fun _ h => absurd h List.not_mem_nil)
abbrev pl_JIndexOutOfBoundsException : ax_pool := (ax_al fl_JIndexOutOfBoundsException, ax_kl kl_JIndexOutOfBoundsException, false)
abbrev pi_JIndexOutOfBoundsException : ax_pool := (ax_al fl_JIndexOutOfBoundsException, ax_kl kl_JIndexOutOfBoundsException, true)
def fl_B : List (Nat × Nat × Nat) := []
def kl_B : List (Nat × Value) := [(18, .long (1073741824)), (20, .int (1073741824)), (21, .long (-1073741824)), (23, .int (-1073741824)), (35, .int (-65536)), (30, .long (65536))]
set_option maxRecDepth 100000 in
theorem fl_B_ok : ax_F VV "NumberFunctions$Numbers" (ax_al fl_B) := ax_F_of (fun _ h => absurd h List.not_mem_nil)
theorem kl_B_ok : ax_PL VV "NumberFunctions$Numbers" (ax_kl kl_B) := ax_PL_of (List.forall_mem_cons.mpr ⟨mt3 (List.mem_of_getElem? (i := 218) rfl), List.forall_mem_cons.mpr ⟨mt3 (List.mem_of_getElem? (i := 219) rfl), List.forall_mem_cons.mpr ⟨mt3 (List.mem_of_getElem? (i := 220) rfl), List.forall_mem_cons.mpr ⟨mt3 (List.mem_of_getElem? (i := 221) rfl), List.forall_mem_cons.mpr ⟨mt4 (List.mem_of_getElem? (i := 33) rfl), List.forall_mem_cons.mpr ⟨mt4 (List.mem_of_getElem? (i := 55) rfl), fun _ h => absurd h List.not_mem_nil⟩⟩⟩⟩⟩⟩)
abbrev pl_B : ax_pool := (ax_al fl_B, ax_kl kl_B, false)
abbrev pi_B : ax_pool := (ax_al fl_B, ax_kl kl_B, true)
def fl_JEnum : List (Nat × Nat × Nat) := [(7, 13, 3)]
def kl_JEnum : List (Nat × Value) := []
set_option maxRecDepth 100000 in
theorem fl_JEnum_ok : ax_F VV "java/lang/Enum" (ax_al fl_JEnum) := ax_F_of (List.forall_mem_cons.mpr ⟨⟨_, _, _, "java/lang/Enum", rfl, by decide, mt6 (List.mem_of_getElem? (i := 190) rfl), Or.inl rfl⟩, fun _ h => absurd h List.not_mem_nil⟩)
theorem kl_JEnum_ok : ax_PL VV "java/lang/Enum" (ax_kl kl_JEnum) := ax_PL_of (fun _ h => absurd h List.not_mem_nil)
abbrev pl_JEnum : ax_pool := (ax_al fl_JEnum, ax_kl kl_JEnum, false)
abbrev pi_JEnum : ax_pool := (ax_al fl_JEnum, ax_kl kl_JEnum, true)
def fl_M : List (Nat × Nat × Nat) := [(78, 9, 0), (81, 9, 1), (7, 9, 2), (96, 9, 3), (13, 9, 4), (17, 9, 5), (20, 9, 6), (23, 9, 7), (27, 9, 8), (99, 9, 9), (30, 9, 10), (33, 9, 11), (36, 9, 12), (39, 9, 13), (42, 9, 14), (46, 9, 15), (49, 9, 16), (53, 9, 17), (56, 9, 18), (59, 9, 19), (174, 9, 20), (62, 9, 21), (65, 9, 22), (168, 9, 23), (171, 9, 24), (353, 9, 25), (68, 9, 26), (71, 9, 27), (75, 9, 28), (373, 9, 29), (346, 9, 30), (307, 9, 31)]
def kl_M : List (Nat × Value) := [(45, .int (196608)), (88, .long (-1073741824)), (90, .long (1073741824)), (102, .long (3)), (123, .long (4)), (128, .long (64)), (130, .long (16)), (132, .long (8)), (147, .long (7)), (211, .long (1000000000)), (213, .long (10)), (215, .long (48)), (217, .long (16384)), (114, .long (65536)), (226, .long (16383)), (415, .long (32768)), (411, .long (16777216)), (413, .long (2)), (442, .long (-1)), (444, .long (-2031616)), (446, .long (2031616)), (460, .long (60))]
set_option maxRecDepth 100000 in
theorem fl_M_ok : ax_F VV "NumberFunctionsModel" (ax_al fl_M) := ax_F_of (List.forall_mem_cons.mpr ⟨⟨_, _, _, "NumberFunctionsModel", rfl, by decide, mt4 (List.mem_of_getElem? (i := 206) rfl), Or.inl rfl⟩, List.forall_mem_cons.mpr ⟨⟨_, _, _, "NumberFunctionsModel", rfl, by decide, mt4 (List.mem_of_getElem? (i := 207) rfl), Or.inl rfl⟩, List.forall_mem_cons.mpr ⟨⟨_, _, _, "NumberFunctionsModel", rfl, by decide, mt4 (List.mem_of_getElem? (i := 208) rfl), Or.inl rfl⟩, List.forall_mem_cons.mpr ⟨⟨_, _, _, "NumberFunctionsModel", rfl, by decide, mt4 (List.mem_of_getElem? (i := 209) rfl), Or.inl rfl⟩, List.forall_mem_cons.mpr ⟨⟨_, _, _, "NumberFunctionsModel", rfl, by decide, mt4 (List.mem_of_getElem? (i := 210) rfl), Or.inl rfl⟩, List.forall_mem_cons.mpr ⟨⟨_, _, _, "NumberFunctionsModel", rfl, by decide, mt4 (List.mem_of_getElem? (i := 211) rfl), Or.inl rfl⟩, List.forall_mem_cons.mpr ⟨⟨_, _, _, "NumberFunctionsModel", rfl, by decide, mt4 (List.mem_of_getElem? (i := 212) rfl), Or.inl rfl⟩, List.forall_mem_cons.mpr ⟨⟨_, _, _, "NumberFunctionsModel", rfl, by decide, mt4 (List.mem_of_getElem? (i := 213) rfl), Or.inl rfl⟩, List.forall_mem_cons.mpr ⟨⟨_, _, _, "NumberFunctionsModel", rfl, by decide, mt4 (List.mem_of_getElem? (i := 214) rfl), Or.inl rfl⟩, List.forall_mem_cons.mpr ⟨⟨_, _, _, "NumberFunctionsModel", rfl, by decide, mt4 (List.mem_of_getElem? (i := 215) rfl), Or.inl rfl⟩, List.forall_mem_cons.mpr ⟨⟨_, _, _, "NumberFunctionsModel", rfl, by decide, mt4 (List.mem_of_getElem? (i := 216) rfl), Or.inl rfl⟩, List.forall_mem_cons.mpr ⟨⟨_, _, _, "NumberFunctionsModel", rfl, by decide, mt4 (List.mem_of_getElem? (i := 217) rfl), Or.inl rfl⟩, List.forall_mem_cons.mpr ⟨⟨_, _, _, "NumberFunctionsModel", rfl, by decide, mt4 (List.mem_of_getElem? (i := 218) rfl), Or.inl rfl⟩, List.forall_mem_cons.mpr ⟨⟨_, _, _, "NumberFunctionsModel", rfl, by decide, mt4 (List.mem_of_getElem? (i := 219) rfl), Or.inl rfl⟩, List.forall_mem_cons.mpr ⟨⟨_, _, _, "NumberFunctionsModel", rfl, by decide, mt4 (List.mem_of_getElem? (i := 220) rfl), Or.inl rfl⟩, List.forall_mem_cons.mpr ⟨⟨_, _, _, "NumberFunctionsModel", rfl, by decide, mt4 (List.mem_of_getElem? (i := 221) rfl), Or.inl rfl⟩, List.forall_mem_cons.mpr ⟨⟨_, _, _, "NumberFunctionsModel", rfl, by decide, mt4 (List.mem_of_getElem? (i := 222) rfl), Or.inl rfl⟩, List.forall_mem_cons.mpr ⟨⟨_, _, _, "NumberFunctionsModel", rfl, by decide, mt4 (List.mem_of_getElem? (i := 223) rfl), Or.inl rfl⟩, List.forall_mem_cons.mpr ⟨⟨_, _, _, "NumberFunctionsModel", rfl, by decide, mt4 (List.mem_of_getElem? (i := 224) rfl), Or.inl rfl⟩, List.forall_mem_cons.mpr ⟨⟨_, _, _, "NumberFunctionsModel", rfl, by decide, mt4 (List.mem_of_getElem? (i := 225) rfl), Or.inl rfl⟩, List.forall_mem_cons.mpr ⟨⟨_, _, _, "NumberFunctionsModel", rfl, by decide, mt4 (List.mem_of_getElem? (i := 226) rfl), Or.inl rfl⟩, List.forall_mem_cons.mpr ⟨⟨_, _, _, "NumberFunctionsModel", rfl, by decide, mt4 (List.mem_of_getElem? (i := 227) rfl), Or.inl rfl⟩, List.forall_mem_cons.mpr ⟨⟨_, _, _, "NumberFunctionsModel", rfl, by decide, mt4 (List.mem_of_getElem? (i := 228) rfl), Or.inl rfl⟩, List.forall_mem_cons.mpr ⟨⟨_, _, _, "NumberFunctionsModel", rfl, by decide, mt4 (List.mem_of_getElem? (i := 229) rfl), Or.inl rfl⟩, List.forall_mem_cons.mpr ⟨⟨_, _, _, "NumberFunctionsModel", rfl, by decide, mt4 (List.mem_of_getElem? (i := 230) rfl), Or.inl rfl⟩, List.forall_mem_cons.mpr ⟨⟨_, _, _, "NumberFunctionsModel", rfl, by decide, mt4 (List.mem_of_getElem? (i := 231) rfl), Or.inl rfl⟩, List.forall_mem_cons.mpr ⟨⟨_, _, _, "NumberFunctionsModel", rfl, by decide, mt4 (List.mem_of_getElem? (i := 232) rfl), Or.inl rfl⟩, List.forall_mem_cons.mpr ⟨⟨_, _, _, "NumberFunctionsModel", rfl, by decide, mt4 (List.mem_of_getElem? (i := 233) rfl), Or.inl rfl⟩, List.forall_mem_cons.mpr ⟨⟨_, _, _, "NumberFunctionsModel", rfl, by decide, mt4 (List.mem_of_getElem? (i := 234) rfl), Or.inl rfl⟩, List.forall_mem_cons.mpr ⟨⟨_, _, _, "NumberFunctionsModel", rfl, by decide, mt4 (List.mem_of_getElem? (i := 235) rfl), Or.inl rfl⟩, List.forall_mem_cons.mpr ⟨⟨_, _, _, "NumberFunctionsModel", rfl, by decide, mt4 (List.mem_of_getElem? (i := 236) rfl), Or.inl rfl⟩, List.forall_mem_cons.mpr ⟨⟨_, _, _, "NumberFunctionsModel", rfl, by decide, mt4 (List.mem_of_getElem? (i := 237) rfl), Or.inl rfl⟩, fun _ h => absurd h List.not_mem_nil⟩⟩⟩⟩⟩⟩⟩⟩⟩⟩⟩⟩⟩⟩⟩⟩⟩⟩⟩⟩⟩⟩⟩⟩⟩⟩⟩⟩⟩⟩⟩⟩)
theorem kl_M_ok : ax_PL VV "NumberFunctionsModel" (ax_kl kl_M) := ax_PL_of (List.forall_mem_cons.mpr ⟨mt4 (List.mem_of_getElem? (i := 205) rfl), List.forall_mem_cons.mpr ⟨mt5 (List.mem_of_getElem? (i := 83) rfl), List.forall_mem_cons.mpr ⟨mt5 (List.mem_of_getElem? (i := 84) rfl), List.forall_mem_cons.mpr ⟨mt5 (List.mem_of_getElem? (i := 100) rfl), List.forall_mem_cons.mpr ⟨mt5 (List.mem_of_getElem? (i := 116) rfl), List.forall_mem_cons.mpr ⟨mt5 (List.mem_of_getElem? (i := 133) rfl), List.forall_mem_cons.mpr ⟨mt5 (List.mem_of_getElem? (i := 138) rfl), List.forall_mem_cons.mpr ⟨mt5 (List.mem_of_getElem? (i := 143) rfl), List.forall_mem_cons.mpr ⟨mt5 (List.mem_of_getElem? (i := 152) rfl), List.forall_mem_cons.mpr ⟨mt5 (List.mem_of_getElem? (i := 191) rfl), List.forall_mem_cons.mpr ⟨mt5 (List.mem_of_getElem? (i := 192) rfl), List.forall_mem_cons.mpr ⟨mt5 (List.mem_of_getElem? (i := 193) rfl), List.forall_mem_cons.mpr ⟨mt5 (List.mem_of_getElem? (i := 194) rfl), List.forall_mem_cons.mpr ⟨mt5 (List.mem_of_getElem? (i := 195) rfl), List.forall_mem_cons.mpr ⟨mt5 (List.mem_of_getElem? (i := 196) rfl), List.forall_mem_cons.mpr ⟨mt6 (List.mem_of_getElem? (i := 104) rfl), List.forall_mem_cons.mpr ⟨mt6 (List.mem_of_getElem? (i := 111) rfl), List.forall_mem_cons.mpr ⟨mt6 (List.mem_of_getElem? (i := 112) rfl), List.forall_mem_cons.mpr ⟨mt6 (List.mem_of_getElem? (i := 144) rfl), List.forall_mem_cons.mpr ⟨mt6 (List.mem_of_getElem? (i := 149) rfl), List.forall_mem_cons.mpr ⟨mt6 (List.mem_of_getElem? (i := 150) rfl), List.forall_mem_cons.mpr ⟨mt6 (List.mem_of_getElem? (i := 167) rfl), fun _ h => absurd h List.not_mem_nil⟩⟩⟩⟩⟩⟩⟩⟩⟩⟩⟩⟩⟩⟩⟩⟩⟩⟩⟩⟩⟩⟩)
abbrev pl_M : ax_pool := (ax_al fl_M, ax_kl kl_M, false)
abbrev pi_M : ax_pool := (ax_al fl_M, ax_kl kl_M, true)
end
section
set_option maxRecDepth 100000 in
theorem L_N : ax_L VV "NumberFunctions" Cl_N 11 := ⟨List.forall_mem_cons.mpr ⟨mt1 (List.mem_of_getElem? (i := 158) rfl), List.forall_mem_cons.mpr ⟨mt1 (List.mem_of_getElem? (i := 160) rfl), List.forall_mem_cons.mpr ⟨mt1 (List.mem_of_getElem? (i := 162) rfl), List.forall_mem_cons.mpr ⟨mt1 (List.mem_of_getElem? (i := 164) rfl), List.forall_mem_cons.mpr ⟨mt1 (List.mem_of_getElem? (i := 166) rfl), List.forall_mem_cons.mpr ⟨mt1 (List.mem_of_getElem? (i := 168) rfl), List.forall_mem_cons.mpr ⟨mt1 (List.mem_of_getElem? (i := 170) rfl), List.forall_mem_cons.mpr ⟨mt1 (List.mem_of_getElem? (i := 172) rfl), List.forall_mem_cons.mpr ⟨mt1 (List.mem_of_getElem? (i := 174) rfl), List.forall_mem_cons.mpr ⟨mt1 (List.mem_of_getElem? (i := 176) rfl), List.forall_mem_cons.mpr ⟨mt1 (List.mem_of_getElem? (i := 178) rfl), fun _ h => absurd h List.not_mem_nil⟩⟩⟩⟩⟩⟩⟩⟩⟩⟩⟩, ⟨Ty_N, by decide +kernel⟩, by decide +kernel⟩
theorem N_N : Cond.instantiable "NumberFunctions" 11 ∈ VV.ts := mt1 (List.mem_of_getElem? (i := 30) rfl)
theorem I_N : Cond.initialized "NumberFunctions" ∈ VV.ts := mt1 (List.mem_of_getElem? (i := 1) rfl)
set_option maxRecDepth 100000 in
theorem L_T : ax_L VV "NumberFunctions$Telling" Cl_T 2 := ⟨List.forall_mem_cons.mpr ⟨mt1 (List.mem_of_getElem? (i := 47) rfl), List.forall_mem_cons.mpr ⟨mt1 (List.mem_of_getElem? (i := 49) rfl), fun _ h => absurd h List.not_mem_nil⟩⟩, ⟨Ty_T, by decide +kernel⟩, by decide +kernel⟩
theorem N_T : Cond.instantiable "NumberFunctions$Telling" 2 ∈ VV.ts := mt1 (List.mem_of_getElem? (i := 38) rfl)
theorem I_T : Cond.initialized "NumberFunctions$Telling" ∈ VV.ts := mt1 (List.mem_of_getElem? (i := 2) rfl)
set_option maxRecDepth 100000 in
theorem L_U : ax_L VV "NumberFunctions$Fault" Cl_U 2 := ⟨List.forall_mem_cons.mpr ⟨mt1 (List.mem_of_getElem? (i := 66) rfl), List.forall_mem_cons.mpr ⟨mt1 (List.mem_of_getElem? (i := 68) rfl), fun _ h => absurd h List.not_mem_nil⟩⟩, ⟨Ty_U, by decide +kernel⟩, by decide +kernel⟩
theorem N_U : Cond.instantiable "NumberFunctions$Fault" 2 ∈ VV.ts := mt1 (List.mem_of_getElem? (i := 57) rfl)
theorem I_U : Cond.initialized "NumberFunctions$Fault" ∈ VV.ts := mt1 (List.mem_of_getElem? (i := 3) rfl)
set_option maxRecDepth 100000 in
theorem L_R : ax_L VV "NumberFunctions$Reader" Cl_R 13 := ⟨List.forall_mem_cons.mpr ⟨mt1 (List.mem_of_getElem? (i := 97) rfl), List.forall_mem_cons.mpr ⟨mt1 (List.mem_of_getElem? (i := 99) rfl), List.forall_mem_cons.mpr ⟨mt1 (List.mem_of_getElem? (i := 101) rfl), List.forall_mem_cons.mpr ⟨mt1 (List.mem_of_getElem? (i := 103) rfl), List.forall_mem_cons.mpr ⟨mt1 (List.mem_of_getElem? (i := 105) rfl), List.forall_mem_cons.mpr ⟨mt1 (List.mem_of_getElem? (i := 107) rfl), List.forall_mem_cons.mpr ⟨mt1 (List.mem_of_getElem? (i := 109) rfl), List.forall_mem_cons.mpr ⟨mt1 (List.mem_of_getElem? (i := 111) rfl), List.forall_mem_cons.mpr ⟨mt1 (List.mem_of_getElem? (i := 113) rfl), List.forall_mem_cons.mpr ⟨mt1 (List.mem_of_getElem? (i := 115) rfl), List.forall_mem_cons.mpr ⟨mt1 (List.mem_of_getElem? (i := 117) rfl), List.forall_mem_cons.mpr ⟨mt1 (List.mem_of_getElem? (i := 119) rfl), List.forall_mem_cons.mpr ⟨mt1 (List.mem_of_getElem? (i := 121) rfl), fun _ h => absurd h List.not_mem_nil⟩⟩⟩⟩⟩⟩⟩⟩⟩⟩⟩⟩⟩, ⟨Ty_R, by decide +kernel⟩, by decide +kernel⟩
theorem N_R : Cond.instantiable "NumberFunctions$Reader" 13 ∈ VV.ts := mt1 (List.mem_of_getElem? (i := 72) rfl)
theorem I_R : Cond.initialized "NumberFunctions$Reader" ∈ VV.ts := mt1 (List.mem_of_getElem? (i := 4) rfl)
set_option maxRecDepth 100000 in
theorem L_K : ax_L VV "NumberFunctions$Machine" Cl_K 4 := ⟨List.forall_mem_cons.mpr ⟨mt1 (List.mem_of_getElem? (i := 137) rfl), List.forall_mem_cons.mpr ⟨mt1 (List.mem_of_getElem? (i := 139) rfl), List.forall_mem_cons.mpr ⟨mt1 (List.mem_of_getElem? (i := 141) rfl), List.forall_mem_cons.mpr ⟨mt1 (List.mem_of_getElem? (i := 143) rfl), fun _ h => absurd h List.not_mem_nil⟩⟩⟩⟩, ⟨Ty_K, by decide +kernel⟩, by decide +kernel⟩
theorem N_K : Cond.instantiable "NumberFunctions$Machine" 4 ∈ VV.ts := mt1 (List.mem_of_getElem? (i := 125) rfl)
theorem I_K : Cond.initialized "NumberFunctions$Machine" ∈ VV.ts := mt1 (List.mem_of_getElem? (i := 5) rfl)
set_option maxRecDepth 100000 in
theorem L_S : ax_L VV "NumberFunctions$Samples" Cl_S 8 := ⟨List.forall_mem_cons.mpr ⟨mt2 (List.mem_of_getElem? (i := 195) rfl), List.forall_mem_cons.mpr ⟨mt2 (List.mem_of_getElem? (i := 197) rfl), List.forall_mem_cons.mpr ⟨mt2 (List.mem_of_getElem? (i := 199) rfl), List.forall_mem_cons.mpr ⟨mt2 (List.mem_of_getElem? (i := 201) rfl), List.forall_mem_cons.mpr ⟨mt2 (List.mem_of_getElem? (i := 203) rfl), List.forall_mem_cons.mpr ⟨mt2 (List.mem_of_getElem? (i := 205) rfl), List.forall_mem_cons.mpr ⟨mt2 (List.mem_of_getElem? (i := 207) rfl), List.forall_mem_cons.mpr ⟨mt2 (List.mem_of_getElem? (i := 209) rfl), fun _ h => absurd h List.not_mem_nil⟩⟩⟩⟩⟩⟩⟩⟩, ⟨Ty_S, by decide +kernel⟩, by decide +kernel⟩
theorem N_S : Cond.instantiable "NumberFunctions$Samples" 8 ∈ VV.ts := mt2 (List.mem_of_getElem? (i := 152) rfl)
theorem I_S : Cond.initialized "NumberFunctions$Samples" ∈ VV.ts := mt1 (List.mem_of_getElem? (i := 16) rfl)
set_option maxRecDepth 100000 in
theorem L_P : ax_L VV "NumberFunctions$Powers" Cl_P 3 := ⟨List.forall_mem_cons.mpr ⟨mt2 (List.mem_of_getElem? (i := 219) rfl), List.forall_mem_cons.mpr ⟨mt2 (List.mem_of_getElem? (i := 220) rfl), List.forall_mem_cons.mpr ⟨mt2 (List.mem_of_getElem? (i := 221) rfl), fun _ h => absurd h List.not_mem_nil⟩⟩⟩, ⟨Ty_P, by decide +kernel⟩, by decide +kernel⟩
theorem N_P : Cond.instantiable "NumberFunctions$Powers" 3 ∈ VV.ts := mt2 (List.mem_of_getElem? (i := 214) rfl)
theorem I_P : Cond.initialized "NumberFunctions$Powers" ∈ VV.ts := mt1 (List.mem_of_getElem? (i := 17) rfl)
set_option maxRecDepth 100000 in
theorem L_Z : ax_L VV "NumberFunctions$Stitched" Cl_Z 4 := ⟨List.forall_mem_cons.mpr ⟨mt2 (List.mem_of_getElem? (i := 231) rfl), List.forall_mem_cons.mpr ⟨mt2 (List.mem_of_getElem? (i := 233) rfl), List.forall_mem_cons.mpr ⟨mt2 (List.mem_of_getElem? (i := 234) rfl), List.forall_mem_cons.mpr ⟨mt2 (List.mem_of_getElem? (i := 235) rfl), fun _ h => absurd h List.not_mem_nil⟩⟩⟩⟩, ⟨Ty_Z, by decide +kernel⟩, by decide +kernel⟩
theorem N_Z : Cond.instantiable "NumberFunctions$Stitched" 4 ∈ VV.ts := mt2 (List.mem_of_getElem? (i := 224) rfl)
theorem I_Z : Cond.initialized "NumberFunctions$Stitched" ∈ VV.ts := mt1 (List.mem_of_getElem? (i := 18) rfl)
set_option maxRecDepth 100000 in
theorem L_G : ax_L VV "NumberFunctions$Program" Cl_G 9 := ⟨List.forall_mem_cons.mpr ⟨mt3 (List.mem_of_getElem? (i := 141) rfl), List.forall_mem_cons.mpr ⟨mt3 (List.mem_of_getElem? (i := 143) rfl), List.forall_mem_cons.mpr ⟨mt3 (List.mem_of_getElem? (i := 145) rfl), List.forall_mem_cons.mpr ⟨mt3 (List.mem_of_getElem? (i := 147) rfl), List.forall_mem_cons.mpr ⟨mt3 (List.mem_of_getElem? (i := 149) rfl), List.forall_mem_cons.mpr ⟨mt3 (List.mem_of_getElem? (i := 151) rfl), List.forall_mem_cons.mpr ⟨mt3 (List.mem_of_getElem? (i := 153) rfl), List.forall_mem_cons.mpr ⟨mt3 (List.mem_of_getElem? (i := 154) rfl), List.forall_mem_cons.mpr ⟨mt3 (List.mem_of_getElem? (i := 155) rfl), fun _ h => absurd h List.not_mem_nil⟩⟩⟩⟩⟩⟩⟩⟩⟩, ⟨Ty_G, by decide +kernel⟩, by decide +kernel⟩
theorem N_G : Cond.instantiable "NumberFunctions$Program" 9 ∈ VV.ts := mt3 (List.mem_of_getElem? (i := 127) rfl)
theorem I_G : Cond.initialized "NumberFunctions$Program" ∈ VV.ts := mt1 (List.mem_of_getElem? (i := 25) rfl)
set_option maxRecDepth 100000 in
theorem L_M : ax_L VV "NumberFunctionsModel" Cl_M 32 := ⟨List.forall_mem_cons.mpr ⟨mt4 (List.mem_of_getElem? (i := 238) rfl), List.forall_mem_cons.mpr ⟨mt5 (List.mem_of_getElem? (i := 0) rfl), List.forall_mem_cons.mpr ⟨mt5 (List.mem_of_getElem? (i := 2) rfl), List.forall_mem_cons.mpr ⟨mt5 (List.mem_of_getElem? (i := 4) rfl), List.forall_mem_cons.mpr ⟨mt5 (List.mem_of_getElem? (i := 6) rfl), List.forall_mem_cons.mpr ⟨mt5 (List.mem_of_getElem? (i := 8) rfl), List.forall_mem_cons.mpr ⟨mt5 (List.mem_of_getElem? (i := 10) rfl), List.forall_mem_cons.mpr ⟨mt5 (List.mem_of_getElem? (i := 12) rfl), List.forall_mem_cons.mpr ⟨mt5 (List.mem_of_getElem? (i := 14) rfl), List.forall_mem_cons.mpr ⟨mt5 (List.mem_of_getElem? (i := 16) rfl), List.forall_mem_cons.mpr ⟨mt5 (List.mem_of_getElem? (i := 18) rfl), List.forall_mem_cons.mpr ⟨mt5 (List.mem_of_getElem? (i := 20) rfl), List.forall_mem_cons.mpr ⟨mt5 (List.mem_of_getElem? (i := 22) rfl), List.forall_mem_cons.mpr ⟨mt5 (List.mem_of_getElem? (i := 24) rfl), List.forall_mem_cons.mpr ⟨mt5 (List.mem_of_getElem? (i := 26) rfl), List.forall_mem_cons.mpr ⟨mt5 (List.mem_of_getElem? (i := 28) rfl), List.forall_mem_cons.mpr ⟨mt5 (List.mem_of_getElem? (i := 30) rfl), List.forall_mem_cons.mpr ⟨mt5 (List.mem_of_getElem? (i := 32) rfl), List.forall_mem_cons.mpr ⟨mt5 (List.mem_of_getElem? (i := 34) rfl), List.forall_mem_cons.mpr ⟨mt5 (List.mem_of_getElem? (i := 36) rfl), List.forall_mem_cons.mpr ⟨mt5 (List.mem_of_getElem? (i := 38) rfl), List.forall_mem_cons.mpr ⟨mt5 (List.mem_of_getElem? (i := 40) rfl), List.forall_mem_cons.mpr ⟨mt5 (List.mem_of_getElem? (i := 42) rfl), List.forall_mem_cons.mpr ⟨mt5 (List.mem_of_getElem? (i := 44) rfl), List.forall_mem_cons.mpr ⟨mt5 (List.mem_of_getElem? (i := 46) rfl), List.forall_mem_cons.mpr ⟨mt5 (List.mem_of_getElem? (i := 48) rfl), List.forall_mem_cons.mpr ⟨mt5 (List.mem_of_getElem? (i := 50) rfl), List.forall_mem_cons.mpr ⟨mt5 (List.mem_of_getElem? (i := 52) rfl), List.forall_mem_cons.mpr ⟨mt5 (List.mem_of_getElem? (i := 54) rfl), List.forall_mem_cons.mpr ⟨mt5 (List.mem_of_getElem? (i := 56) rfl), List.forall_mem_cons.mpr ⟨mt5 (List.mem_of_getElem? (i := 58) rfl), List.forall_mem_cons.mpr ⟨mt5 (List.mem_of_getElem? (i := 60) rfl), fun _ h => absurd h List.not_mem_nil⟩⟩⟩⟩⟩⟩⟩⟩⟩⟩⟩⟩⟩⟩⟩⟩⟩⟩⟩⟩⟩⟩⟩⟩⟩⟩⟩⟩⟩⟩⟩⟩, ⟨Ty_M, by decide +kernel⟩, by decide +kernel⟩
theorem N_M : Cond.instantiable "NumberFunctionsModel" 32 ∈ VV.ts := mt4 (List.mem_of_getElem? (i := 200) rfl)
theorem I_M : Cond.initialized "NumberFunctionsModel" ∈ VV.ts := mt1 (List.mem_of_getElem? (i := 6) rfl)
set_option maxRecDepth 100000 in
theorem L_EA : ax_L VV "java/lang/IllegalArgumentException" Cl_EA 6 := ⟨List.forall_mem_cons.mpr ⟨mt1 (List.mem_of_getElem? (i := 220) rfl), List.forall_mem_cons.mpr ⟨mt1 (List.mem_of_getElem? (i := 222) rfl), List.forall_mem_cons.mpr ⟨mt1 (List.mem_of_getElem? (i := 224) rfl), List.forall_mem_cons.mpr ⟨mt1 (List.mem_of_getElem? (i := 226) rfl), List.forall_mem_cons.mpr ⟨mt1 (List.mem_of_getElem? (i := 228) rfl), List.forall_mem_cons.mpr ⟨mt2 (List.mem_of_getElem? (i := 32) rfl), fun _ h => absurd h List.not_mem_nil⟩⟩⟩⟩⟩⟩, ⟨Ty_EA, by decide +kernel⟩, by decide +kernel⟩
theorem N_EA : Cond.instantiable "java/lang/IllegalArgumentException" 6 ∈ VV.ts := mt1 (List.mem_of_getElem? (i := 210) rfl)
theorem I_EA : Cond.initialized "java/lang/IllegalArgumentException" ∈ VV.ts := mt1 (List.mem_of_getElem? (i := 10) rfl)
set_option maxRecDepth 100000 in
theorem L_ES : ax_L VV "java/lang/IllegalStateException" Cl_ES 6 := ⟨List.forall_mem_cons.mpr ⟨mt2 (List.mem_of_getElem? (i := 57) rfl), List.forall_mem_cons.mpr ⟨mt2 (List.mem_of_getElem? (i := 58) rfl), List.forall_mem_cons.mpr ⟨mt2 (List.mem_of_getElem? (i := 59) rfl), List.forall_mem_cons.mpr ⟨mt2 (List.mem_of_getElem? (i := 60) rfl), List.forall_mem_cons.mpr ⟨mt2 (List.mem_of_getElem? (i := 61) rfl), List.forall_mem_cons.mpr ⟨mt2 (List.mem_of_getElem? (i := 67) rfl), fun _ h => absurd h List.not_mem_nil⟩⟩⟩⟩⟩⟩, ⟨Ty_ES, by decide +kernel⟩, by decide +kernel⟩
theorem N_ES : Cond.instantiable "java/lang/IllegalStateException" 6 ∈ VV.ts := mt2 (List.mem_of_getElem? (i := 54) rfl)
theorem I_ES : Cond.initialized "java/lang/IllegalStateException" ∈ VV.ts := mt1 (List.mem_of_getElem? (i := 12) rfl)
set_option maxRecDepth 100000 in
theorem L_EI : ax_L VV "java/lang/IndexOutOfBoundsException" Cl_EI 6 := ⟨List.forall_mem_cons.mpr ⟨mt3 (List.mem_of_getElem? (i := 177) rfl), List.forall_mem_cons.mpr ⟨mt3 (List.mem_of_getElem? (i := 178) rfl), List.forall_mem_cons.mpr ⟨mt3 (List.mem_of_getElem? (i := 179) rfl), List.forall_mem_cons.mpr ⟨mt3 (List.mem_of_getElem? (i := 180) rfl), List.forall_mem_cons.mpr ⟨mt3 (List.mem_of_getElem? (i := 181) rfl), List.forall_mem_cons.mpr ⟨mt3 (List.mem_of_getElem? (i := 187) rfl), fun _ h => absurd h List.not_mem_nil⟩⟩⟩⟩⟩⟩, ⟨Ty_EI, by decide +kernel⟩, by decide +kernel⟩
theorem N_EI : Cond.instantiable "java/lang/IndexOutOfBoundsException" 6 ∈ VV.ts := mt3 (List.mem_of_getElem? (i := 174) rfl)
theorem I_EI : Cond.initialized "java/lang/IndexOutOfBoundsException" ∈ VV.ts := mt1 (List.mem_of_getElem? (i := 26) rfl)
theorem N_init_im : Cond.instanceMethod N_init_y ∈ VV.ts := mt1 (List.mem_of_getElem? (i := 32) rfl)
theorem JObject_init_im : Cond.instanceMethod JObject_init_y ∈ VV.ts := mt1 (List.mem_of_getElem? (i := 35) rfl)
theorem T_init_im : Cond.instanceMethod T_init_y ∈ VV.ts := mt1 (List.mem_of_getElem? (i := 40) rfl)
theorem U_init_im : Cond.instanceMethod U_init_y ∈ VV.ts := mt1 (List.mem_of_getElem? (i := 59) rfl)
theorem R_init_im : Cond.instanceMethod R_init_y ∈ VV.ts := mt1 (List.mem_of_getElem? (i := 74) rfl)
theorem K_init_im : Cond.instanceMethod K_init_y ∈ VV.ts := mt1 (List.mem_of_getElem? (i := 127) rfl)
theorem N_feed_im : Cond.instanceMethod N_feed_y ∈ VV.ts := mt1 (List.mem_of_getElem? (i := 182) rfl)
theorem N_feed_se : Cond.selects "NumberFunctions" N_feed_y N_feed_y ∈ VV.ts := mt1 (List.mem_of_getElem? (i := 183) rfl)
theorem N_appendBytes_im : Cond.instanceMethod N_appendBytes_y ∈ VV.ts := mt1 (List.mem_of_getElem? (i := 187) rfl)
theorem N_drop_im : Cond.instanceMethod N_drop_y ∈ VV.ts := mt1 (List.mem_of_getElem? (i := 190) rfl)
theorem N_drop_se : Cond.selects "NumberFunctions" N_drop_y N_drop_y ∈ VV.ts := mt1 (List.mem_of_getElem? (i := 191) rfl)
theorem N_clear_im : Cond.instanceMethod N_clear_y ∈ VV.ts := mt1 (List.mem_of_getElem? (i := 194) rfl)
theorem N_clear_se : Cond.selects "NumberFunctions" N_clear_y N_clear_y ∈ VV.ts := mt1 (List.mem_of_getElem? (i := 195) rfl)
theorem N_fault_im : Cond.instanceMethod N_fault_y ∈ VV.ts := mt1 (List.mem_of_getElem? (i := 198) rfl)
theorem N_fault_se : Cond.selects "NumberFunctions" N_fault_y N_fault_y ∈ VV.ts := mt1 (List.mem_of_getElem? (i := 199) rfl)
theorem L_cut_st : Cond.static L_cut_y ∈ VV.ts := mt1 (List.mem_of_getElem? (i := 202) rfl)
theorem N_cut_im : Cond.instanceMethod N_cut_y ∈ VV.ts := mt1 (List.mem_of_getElem? (i := 206) rfl)
theorem N_cut_se : Cond.selects "NumberFunctions" N_cut_y N_cut_y ∈ VV.ts := mt1 (List.mem_of_getElem? (i := 207) rfl)
theorem JThrowable_init1_im : Cond.instanceMethod JThrowable_init1_y ∈ VV.ts := mt1 (List.mem_of_getElem? (i := 232) rfl)
theorem JThrowable_fillInStackTrace_im : Cond.instanceMethod JThrowable_fillInStackTrace_y ∈ VV.ts := mt2 (List.mem_of_getElem? (i := 0) rfl)
theorem JIllegalArgumentException_init_im : Cond.instanceMethod JIllegalArgumentException_init_y ∈ VV.ts := mt2 (List.mem_of_getElem? (i := 12) rfl)
theorem JRuntimeException_init_im : Cond.instanceMethod JRuntimeException_init_y ∈ VV.ts := mt2 (List.mem_of_getElem? (i := 15) rfl)
theorem JException_init_im : Cond.instanceMethod JException_init_y ∈ VV.ts := mt2 (List.mem_of_getElem? (i := 18) rfl)
theorem JThrowable_init2_im : Cond.instanceMethod JThrowable_init2_y ∈ VV.ts := mt2 (List.mem_of_getElem? (i := 21) rfl)
theorem JMath_max1_st : Cond.static JMath_max1_y ∈ VV.ts := mt2 (List.mem_of_getElem? (i := 37) rfl)
theorem L_tell_st : Cond.static L_tell_y ∈ VV.ts := mt2 (List.mem_of_getElem? (i := 40) rfl)
theorem N_tell_im : Cond.instanceMethod N_tell_y ∈ VV.ts := mt2 (List.mem_of_getElem? (i := 44) rfl)
theorem N_tell_se : Cond.selects "NumberFunctions" N_tell_y N_tell_y ∈ VV.ts := mt2 (List.mem_of_getElem? (i := 45) rfl)
theorem N_isNumber_st : Cond.static N_isNumber_y ∈ VV.ts := mt2 (List.mem_of_getElem? (i := 48) rfl)
theorem JIllegalStateException_init_im : Cond.instanceMethod JIllegalStateException_init_y ∈ VV.ts := mt2 (List.mem_of_getElem? (i := 64) rfl)
theorem L_make_st : Cond.static L_make_y ∈ VV.ts := mt2 (List.mem_of_getElem? (i := 70) rfl)
theorem N_make_im : Cond.instanceMethod N_make_y ∈ VV.ts := mt2 (List.mem_of_getElem? (i := 73) rfl)
theorem N_make_se : Cond.selects "NumberFunctions" N_make_y N_make_y ∈ VV.ts := mt2 (List.mem_of_getElem? (i := 74) rfl)
theorem N_inputLimit_st : Cond.static N_inputLimit_y ∈ VV.ts := mt2 (List.mem_of_getElem? (i := 77) rfl)
theorem U_set_im : Cond.instanceMethod U_set_y ∈ VV.ts := mt2 (List.mem_of_getElem? (i := 83) rfl)
theorem U_set_se : Cond.selects "NumberFunctions$Fault" U_set_y U_set_y ∈ VV.ts := mt2 (List.mem_of_getElem? (i := 84) rfl)
theorem N_built_im : Cond.instanceMethod N_built_y ∈ VV.ts := mt2 (List.mem_of_getElem? (i := 88) rfl)
theorem N_isTold_im : Cond.instanceMethod N_isTold_y ∈ VV.ts := mt2 (List.mem_of_getElem? (i := 92) rfl)
theorem T_saysSamples_im : Cond.instanceMethod T_saysSamples_y ∈ VV.ts := mt2 (List.mem_of_getElem? (i := 95) rfl)
theorem T_saysSamples_se : Cond.selects "NumberFunctions$Telling" T_saysSamples_y T_saysSamples_y ∈ VV.ts := mt2 (List.mem_of_getElem? (i := 96) rfl)
theorem T_isSampleBits_st : Cond.static T_isSampleBits_y ∈ VV.ts := mt2 (List.mem_of_getElem? (i := 99) rfl)
theorem T_isPair_im : Cond.instanceMethod T_isPair_y ∈ VV.ts := mt2 (List.mem_of_getElem? (i := 103) rfl)
theorem T_isOneOf_im : Cond.instanceMethod T_isOneOf_y ∈ VV.ts := mt2 (List.mem_of_getElem? (i := 107) rfl)
theorem T_saysPowers_im : Cond.instanceMethod T_saysPowers_y ∈ VV.ts := mt2 (List.mem_of_getElem? (i := 110) rfl)
theorem T_saysPowers_se : Cond.selects "NumberFunctions$Telling" T_saysPowers_y T_saysPowers_y ∈ VV.ts := mt2 (List.mem_of_getElem? (i := 111) rfl)
theorem T_saysStitched_im : Cond.instanceMethod T_saysStitched_y ∈ VV.ts := mt2 (List.mem_of_getElem? (i := 114) rfl)
theorem T_saysStitched_se : Cond.selects "NumberFunctions$Telling" T_saysStitched_y T_saysStitched_y ∈ VV.ts := mt2 (List.mem_of_getElem? (i := 115) rfl)
theorem T_isPart_st : Cond.static T_isPart_y ∈ VV.ts := mt2 (List.mem_of_getElem? (i := 118) rfl)
theorem T_areBounds_im : Cond.instanceMethod T_areBounds_y ∈ VV.ts := mt2 (List.mem_of_getElem? (i := 122) rfl)
theorem T_saysProgram_im : Cond.instanceMethod T_saysProgram_y ∈ VV.ts := mt2 (List.mem_of_getElem? (i := 125) rfl)
theorem T_saysProgram_se : Cond.selects "NumberFunctions$Telling" T_saysProgram_y T_saysProgram_y ∈ VV.ts := mt2 (List.mem_of_getElem? (i := 126) rfl)
theorem JArrays_copyOf1_st : Cond.static JArrays_copyOf1_y ∈ VV.ts := mt2 (List.mem_of_getElem? (i := 129) rfl)
theorem JMath_min1_st : Cond.static JMath_min1_y ∈ VV.ts := mt2 (List.mem_of_getElem? (i := 139) rfl)
theorem N_builtSamples_im : Cond.instanceMethod N_builtSamples_y ∈ VV.ts := mt2 (List.mem_of_getElem? (i := 146) rfl)
theorem S_bytesNeeded_st : Cond.static S_bytesNeeded_y ∈ VV.ts := mt2 (List.mem_of_getElem? (i := 149) rfl)
theorem JArrays_copyOf2_st : Cond.static JArrays_copyOf2_y ∈ VV.ts := mt2 (List.mem_of_getElem? (i := 154) rfl)
theorem S_init_im : Cond.instanceMethod S_init_y ∈ VV.ts := mt2 (List.mem_of_getElem? (i := 162) rfl)
theorem F_init_im : Cond.instanceMethod F_init_y ∈ VV.ts := mt2 (List.mem_of_getElem? (i := 165) rfl)
theorem P_init_im : Cond.instanceMethod P_init_y ∈ VV.ts := mt2 (List.mem_of_getElem? (i := 216) rfl)
theorem Z_init_im : Cond.instanceMethod Z_init_y ∈ VV.ts := mt2 (List.mem_of_getElem? (i := 226) rfl)
theorem R_read_im : Cond.instanceMethod R_read_y ∈ VV.ts := mt2 (List.mem_of_getElem? (i := 238) rfl)
theorem R_read_se : Cond.selects "NumberFunctions$Reader" R_read_y R_read_y ∈ VV.ts := mt2 (List.mem_of_getElem? (i := 239) rfl)
theorem R_wordStart_im : Cond.instanceMethod R_wordStart_y ∈ VV.ts := mt3 (List.mem_of_getElem? (i := 3) rfl)
theorem R_signAt_im : Cond.instanceMethod R_signAt_y ∈ VV.ts := mt3 (List.mem_of_getElem? (i := 7) rfl)
theorem R_wordEnd_im : Cond.instanceMethod R_wordEnd_y ∈ VV.ts := mt3 (List.mem_of_getElem? (i := 11) rfl)
theorem R_isBrace_st : Cond.static R_isBrace_y ∈ VV.ts := mt3 (List.mem_of_getElem? (i := 14) rfl)
theorem R_take_im : Cond.instanceMethod R_take_y ∈ VV.ts := mt3 (List.mem_of_getElem? (i := 18) rfl)
theorem O_spelled_st : Cond.static O_spelled_y ∈ VV.ts := mt3 (List.mem_of_getElem? (i := 21) rfl)
theorem JString_length_im : Cond.instanceMethod JString_length_y ∈ VV.ts := mt3 (List.mem_of_getElem? (i := 26) rfl)
theorem JString_length_se : Cond.selects "java/lang/String" JString_length_y JString_length_y ∈ VV.ts := mt3 (List.mem_of_getElem? (i := 27) rfl)
theorem JString_coder_im : Cond.instanceMethod JString_coder_y ∈ VV.ts := mt3 (List.mem_of_getElem? (i := 30) rfl)
theorem JString_coder_se : Cond.selects "java/lang/String" JString_coder_y JString_coder_y ∈ VV.ts := mt3 (List.mem_of_getElem? (i := 31) rfl)
theorem O_isAt_im : Cond.instanceMethod O_isAt_y ∈ VV.ts := mt3 (List.mem_of_getElem? (i := 37) rfl)
theorem JString_charAt_im : Cond.instanceMethod JString_charAt_y ∈ VV.ts := mt3 (List.mem_of_getElem? (i := 41) rfl)
theorem JString_charAt_se : Cond.selects "java/lang/String" JString_charAt_y JString_charAt_y ∈ VV.ts := mt3 (List.mem_of_getElem? (i := 42) rfl)
theorem JString_isLatin1_im : Cond.instanceMethod JString_isLatin1_y ∈ VV.ts := mt3 (List.mem_of_getElem? (i := 45) rfl)
theorem JString_isLatin1_se : Cond.selects "java/lang/String" JString_isLatin1_y JString_isLatin1_y ∈ VV.ts := mt3 (List.mem_of_getElem? (i := 46) rfl)
theorem JStringLatin1_charAt_st : Cond.static JStringLatin1_charAt_y ∈ VV.ts := mt3 (List.mem_of_getElem? (i := 49) rfl)
theorem JString_checkIndex_st : Cond.static JString_checkIndex_y ∈ VV.ts := mt3 (List.mem_of_getElem? (i := 52) rfl)
theorem JPreconditions_checkIndex_st : Cond.static JPreconditions_checkIndex_y ∈ VV.ts := mt3 (List.mem_of_getElem? (i := 57) rfl)
theorem JStringUTF16_charAt_st : Cond.static JStringUTF16_charAt_y ∈ VV.ts := mt3 (List.mem_of_getElem? (i := 60) rfl)
theorem JStringUTF16_checkIndex_st : Cond.static JStringUTF16_checkIndex_y ∈ VV.ts := mt3 (List.mem_of_getElem? (i := 63) rfl)
theorem JStringUTF16_length_st : Cond.static JStringUTF16_length_y ∈ VV.ts := mt3 (List.mem_of_getElem? (i := 66) rfl)
theorem JStringUTF16_getChar_st : Cond.static JStringUTF16_getChar_y ∈ VV.ts := mt3 (List.mem_of_getElem? (i := 70) rfl)
theorem R_isMisplaced_im : Cond.instanceMethod R_isMisplaced_y ∈ VV.ts := mt3 (List.mem_of_getElem? (i := 80) rfl)
theorem R_readNumeral_im : Cond.instanceMethod R_readNumeral_y ∈ VV.ts := mt3 (List.mem_of_getElem? (i := 90) rfl)
theorem R_digitsEnd_im : Cond.instanceMethod R_digitsEnd_y ∈ VV.ts := mt3 (List.mem_of_getElem? (i := 94) rfl)
theorem R_wholePart_im : Cond.instanceMethod R_wholePart_y ∈ VV.ts := mt3 (List.mem_of_getElem? (i := 98) rfl)
theorem R_fractionPart_im : Cond.instanceMethod R_fractionPart_y ∈ VV.ts := mt3 (List.mem_of_getElem? (i := 104) rfl)
theorem R_put_im : Cond.instanceMethod R_put_y ∈ VV.ts := mt3 (List.mem_of_getElem? (i := 113) rfl)
theorem R_close_im : Cond.instanceMethod R_close_y ∈ VV.ts := mt3 (List.mem_of_getElem? (i := 119) rfl)
theorem R_joinChoice_im : Cond.instanceMethod R_joinChoice_y ∈ VV.ts := mt3 (List.mem_of_getElem? (i := 123) rfl)
theorem G_init_im : Cond.instanceMethod G_init_y ∈ VV.ts := mt3 (List.mem_of_getElem? (i := 129) rfl)
theorem L_input_st : Cond.static L_input_y ∈ VV.ts := mt3 (List.mem_of_getElem? (i := 158) rfl)
theorem N_input_im : Cond.instanceMethod N_input_y ∈ VV.ts := mt3 (List.mem_of_getElem? (i := 161) rfl)
theorem N_input_se : Cond.selects "NumberFunctions" N_input_y N_input_y ∈ VV.ts := mt3 (List.mem_of_getElem? (i := 162) rfl)
theorem L_call_st : Cond.static L_call_y ∈ VV.ts := mt3 (List.mem_of_getElem? (i := 166) rfl)
theorem N_call_im : Cond.instanceMethod N_call_y ∈ VV.ts := mt3 (List.mem_of_getElem? (i := 170) rfl)
theorem N_call_se : Cond.selects "NumberFunctions" N_call_y N_call_y ∈ VV.ts := mt3 (List.mem_of_getElem? (i := 171) rfl)
theorem JIndexOutOfBoundsException_init_im : Cond.instanceMethod JIndexOutOfBoundsException_init_y ∈ VV.ts := mt3 (List.mem_of_getElem? (i := 184) rfl)
theorem P_evaluate_im : Cond.instanceMethod P_evaluate_y ∈ VV.ts := mt3 (List.mem_of_getElem? (i := 194) rfl)
theorem F_withinPair_im : Cond.instanceMethod F_withinPair_y ∈ VV.ts := mt3 (List.mem_of_getElem? (i := 200) rfl)
theorem B_within_st : Cond.static B_within_y ∈ VV.ts := mt3 (List.mem_of_getElem? (i := 203) rfl)
theorem JMath_min2_st : Cond.static JMath_min2_y ∈ VV.ts := mt3 (List.mem_of_getElem? (i := 206) rfl)
theorem JMath_max2_st : Cond.static JMath_max2_y ∈ VV.ts := mt3 (List.mem_of_getElem? (i := 209) rfl)
theorem B_times_st : Cond.static B_times_y ∈ VV.ts := mt3 (List.mem_of_getElem? (i := 213) rfl)
theorem B_number_st : Cond.static B_number_y ∈ VV.ts := mt3 (List.mem_of_getElem? (i := 216) rfl)
theorem G_evaluate_im : Cond.instanceMethod G_evaluate_y ∈ VV.ts := mt3 (List.mem_of_getElem? (i := 224) rfl)
theorem K_give_im : Cond.instanceMethod K_give_y ∈ VV.ts := mt3 (List.mem_of_getElem? (i := 230) rfl)
theorem K_give_se : Cond.selects "NumberFunctions$Machine" K_give_y K_give_y ∈ VV.ts := mt3 (List.mem_of_getElem? (i := 231) rfl)
theorem K_perform_im : Cond.instanceMethod K_perform_y ∈ VV.ts := mt3 (List.mem_of_getElem? (i := 235) rfl)
theorem K_perform_se : Cond.selects "NumberFunctions$Machine" K_perform_y K_perform_y ∈ VV.ts := mt3 (List.mem_of_getElem? (i := 236) rfl)
theorem K_constant_im : Cond.instanceMethod K_constant_y ∈ VV.ts := mt4 (List.mem_of_getElem? (i := 0) rfl)
theorem K_giveTruth_im : Cond.instanceMethod K_giveTruth_y ∈ VV.ts := mt4 (List.mem_of_getElem? (i := 8) rfl)
theorem K_oneNumber_im : Cond.instanceMethod K_oneNumber_y ∈ VV.ts := mt4 (List.mem_of_getElem? (i := 12) rfl)
theorem K_ofOneNumber_st : Cond.static K_ofOneNumber_y ∈ VV.ts := mt4 (List.mem_of_getElem? (i := 17) rfl)
theorem JEnum_ordinal_im : Cond.instanceMethod JEnum_ordinal_y ∈ VV.ts := mt4 (List.mem_of_getElem? (i := 25) rfl)
theorem JMath_abs_st : Cond.static JMath_abs_y ∈ VV.ts := mt4 (List.mem_of_getElem? (i := 28) rfl)
theorem B_floor_st : Cond.static B_floor_y ∈ VV.ts := mt4 (List.mem_of_getElem? (i := 31) rfl)
theorem B_truncate_st : Cond.static B_truncate_y ∈ VV.ts := mt4 (List.mem_of_getElem? (i := 36) rfl)
theorem B_root_st : Cond.static B_root_y ∈ VV.ts := mt4 (List.mem_of_getElem? (i := 40) rfl)
theorem K_twoNumbers_im : Cond.instanceMethod K_twoNumbers_y ∈ VV.ts := mt4 (List.mem_of_getElem? (i := 44) rfl)
theorem K_ofTwoNumbers_st : Cond.static K_ofTwoNumbers_y ∈ VV.ts := mt4 (List.mem_of_getElem? (i := 49) rfl)
theorem B_over_st : Cond.static B_over_y ∈ VV.ts := mt4 (List.mem_of_getElem? (i := 53) rfl)
theorem JMath_floorDiv_st : Cond.static JMath_floorDiv_y ∈ VV.ts := mt4 (List.mem_of_getElem? (i := 57) rfl)
theorem K_twoWholes_im : Cond.instanceMethod K_twoWholes_y ∈ VV.ts := mt4 (List.mem_of_getElem? (i := 61) rfl)
theorem K_faultOfWholes_im : Cond.instanceMethod K_faultOfWholes_y ∈ VV.ts := mt4 (List.mem_of_getElem? (i := 65) rfl)
theorem K_shifted_st : Cond.static K_shifted_y ∈ VV.ts := mt4 (List.mem_of_getElem? (i := 71) rfl)
theorem K_giveWhole_im : Cond.instanceMethod K_giveWhole_y ∈ VV.ts := mt4 (List.mem_of_getElem? (i := 75) rfl)
theorem K_comparison_im : Cond.instanceMethod K_comparison_y ∈ VV.ts := mt4 (List.mem_of_getElem? (i := 82) rfl)
theorem K_compared_st : Cond.static K_compared_y ∈ VV.ts := mt4 (List.mem_of_getElem? (i := 89) rfl)
theorem K_negation_im : Cond.instanceMethod K_negation_y ∈ VV.ts := mt4 (List.mem_of_getElem? (i := 95) rfl)
theorem K_logic_im : Cond.instanceMethod K_logic_y ∈ VV.ts := mt4 (List.mem_of_getElem? (i := 99) rfl)
theorem K_combined_st : Cond.static K_combined_y ∈ VV.ts := mt4 (List.mem_of_getElem? (i := 102) rfl)
theorem K_move_im : Cond.instanceMethod K_move_y ∈ VV.ts := mt4 (List.mem_of_getElem? (i := 106) rfl)
theorem K_reverse_im : Cond.instanceMethod K_reverse_y ∈ VV.ts := mt4 (List.mem_of_getElem? (i := 110) rfl)
theorem K_roll_im : Cond.instanceMethod K_roll_y ∈ VV.ts := mt4 (List.mem_of_getElem? (i := 116) rfl)
theorem JMath_floorMod1_st : Cond.static JMath_floorMod1_y ∈ VV.ts := mt4 (List.mem_of_getElem? (i := 119) rfl)
theorem K_turn_im : Cond.instanceMethod K_turn_y ∈ VV.ts := mt4 (List.mem_of_getElem? (i := 123) rfl)
theorem K_reach_im : Cond.instanceMethod K_reach_y ∈ VV.ts := mt4 (List.mem_of_getElem? (i := 127) rfl)
theorem K_copyUpper_im : Cond.instanceMethod K_copyUpper_y ∈ VV.ts := mt4 (List.mem_of_getElem? (i := 133) rfl)
theorem K_choice_im : Cond.instanceMethod K_choice_y ∈ VV.ts := mt4 (List.mem_of_getElem? (i := 138) rfl)
theorem G_takeResults_im : Cond.instanceMethod G_takeResults_y ∈ VV.ts := mt4 (List.mem_of_getElem? (i := 143) rfl)
theorem K_faultAtEnd_im : Cond.instanceMethod K_faultAtEnd_y ∈ VV.ts := mt4 (List.mem_of_getElem? (i := 146) rfl)
theorem K_faultAtEnd_se : Cond.selects "NumberFunctions$Machine" K_faultAtEnd_y K_faultAtEnd_y ∈ VV.ts := mt4 (List.mem_of_getElem? (i := 147) rfl)
theorem S_evaluate_im : Cond.instanceMethod S_evaluate_y ∈ VV.ts := mt4 (List.mem_of_getElem? (i := 150) rfl)
theorem S_locate_im : Cond.instanceMethod S_locate_y ∈ VV.ts := mt4 (List.mem_of_getElem? (i := 154) rfl)
theorem B_laid_st : Cond.static B_laid_y ∈ VV.ts := mt4 (List.mem_of_getElem? (i := 160) rfl)
theorem S_between_im : Cond.instanceMethod S_between_y ∈ VV.ts := mt4 (List.mem_of_getElem? (i := 167) rfl)
theorem S_placeOf_im : Cond.instanceMethod S_placeOf_y ∈ VV.ts := mt4 (List.mem_of_getElem? (i := 171) rfl)
theorem S_sample_im : Cond.instanceMethod S_sample_y ∈ VV.ts := mt4 (List.mem_of_getElem? (i := 176) rfl)
theorem S_bitAt_im : Cond.instanceMethod S_bitAt_y ∈ VV.ts := mt4 (List.mem_of_getElem? (i := 181) rfl)
theorem Z_evaluate_im : Cond.instanceMethod Z_evaluate_y ∈ VV.ts := mt4 (List.mem_of_getElem? (i := 184) rfl)
theorem L_output_st : Cond.static L_output_y ∈ VV.ts := mt4 (List.mem_of_getElem? (i := 192) rfl)
theorem N_output_im : Cond.instanceMethod N_output_y ∈ VV.ts := mt4 (List.mem_of_getElem? (i := 195) rfl)
theorem N_output_se : Cond.selects "NumberFunctions" N_output_y N_output_y ∈ VV.ts := mt4 (List.mem_of_getElem? (i := 196) rfl)
theorem M_init_im : Cond.instanceMethod M_init_y ∈ VV.ts := mt4 (List.mem_of_getElem? (i := 202) rfl)
theorem M_thrown_im : Cond.instanceMethod M_thrown_y ∈ VV.ts := mt5 (List.mem_of_getElem? (i := 64) rfl)
theorem M_thrown_se : Cond.selects "NumberFunctionsModel" M_thrown_y M_thrown_y ∈ VV.ts := mt5 (List.mem_of_getElem? (i := 65) rfl)
theorem M_feed_im : Cond.instanceMethod M_feed_y ∈ VV.ts := mt5 (List.mem_of_getElem? (i := 68) rfl)
theorem M_feed_se : Cond.selects "NumberFunctionsModel" M_feed_y M_feed_y ∈ VV.ts := mt5 (List.mem_of_getElem? (i := 69) rfl)
theorem M_cut_im : Cond.instanceMethod M_cut_y ∈ VV.ts := mt5 (List.mem_of_getElem? (i := 72) rfl)
theorem M_cut_se : Cond.selects "NumberFunctionsModel" M_cut_y M_cut_y ∈ VV.ts := mt5 (List.mem_of_getElem? (i := 73) rfl)
theorem M_refused_im : Cond.instanceMethod M_refused_y ∈ VV.ts := mt5 (List.mem_of_getElem? (i := 77) rfl)
theorem M_tell_im : Cond.instanceMethod M_tell_y ∈ VV.ts := mt5 (List.mem_of_getElem? (i := 80) rfl)
theorem M_tell_se : Cond.selects "NumberFunctionsModel" M_tell_y M_tell_y ∈ VV.ts := mt5 (List.mem_of_getElem? (i := 81) rfl)
theorem M_isIn_st : Cond.static M_isIn_y ∈ VV.ts := mt5 (List.mem_of_getElem? (i := 86) rfl)
theorem M_drop_im : Cond.instanceMethod M_drop_y ∈ VV.ts := mt5 (List.mem_of_getElem? (i := 89) rfl)
theorem M_drop_se : Cond.selects "NumberFunctionsModel" M_drop_y M_drop_y ∈ VV.ts := mt5 (List.mem_of_getElem? (i := 90) rfl)
theorem M_clear_im : Cond.instanceMethod M_clear_y ∈ VV.ts := mt5 (List.mem_of_getElem? (i := 93) rfl)
theorem M_clear_se : Cond.selects "NumberFunctionsModel" M_clear_y M_clear_y ∈ VV.ts := mt5 (List.mem_of_getElem? (i := 94) rfl)
theorem M_input_im : Cond.instanceMethod M_input_y ∈ VV.ts := mt5 (List.mem_of_getElem? (i := 97) rfl)
theorem M_input_se : Cond.selects "NumberFunctionsModel" M_input_y M_input_y ∈ VV.ts := mt5 (List.mem_of_getElem? (i := 98) rfl)
theorem M_output_im : Cond.instanceMethod M_output_y ∈ VV.ts := mt5 (List.mem_of_getElem? (i := 102) rfl)
theorem M_output_se : Cond.selects "NumberFunctionsModel" M_output_y M_output_y ∈ VV.ts := mt5 (List.mem_of_getElem? (i := 103) rfl)
theorem M_fault_im : Cond.instanceMethod M_fault_y ∈ VV.ts := mt5 (List.mem_of_getElem? (i := 106) rfl)
theorem M_fault_se : Cond.selects "NumberFunctionsModel" M_fault_y M_fault_y ∈ VV.ts := mt5 (List.mem_of_getElem? (i := 107) rfl)
theorem M_make_im : Cond.instanceMethod M_make_y ∈ VV.ts := mt5 (List.mem_of_getElem? (i := 110) rfl)
theorem M_make_se : Cond.selects "NumberFunctionsModel" M_make_y M_make_y ∈ VV.ts := mt5 (List.mem_of_getElem? (i := 111) rfl)
theorem M_isKind_st : Cond.static M_isKind_y ∈ VV.ts := mt5 (List.mem_of_getElem? (i := 114) rfl)
theorem M_tellFault_im : Cond.instanceMethod M_tellFault_y ∈ VV.ts := mt5 (List.mem_of_getElem? (i := 119) rfl)
theorem M_isTold_im : Cond.instanceMethod M_isTold_y ∈ VV.ts := mt5 (List.mem_of_getElem? (i := 123) rfl)
theorem M_isSamples_im : Cond.instanceMethod M_isSamples_y ∈ VV.ts := mt5 (List.mem_of_getElem? (i := 127) rfl)
theorem M_isPair_im : Cond.instanceMethod M_isPair_y ∈ VV.ts := mt5 (List.mem_of_getElem? (i := 131) rfl)
theorem M_isPowers_im : Cond.instanceMethod M_isPowers_y ∈ VV.ts := mt5 (List.mem_of_getElem? (i := 136) rfl)
theorem M_isStitched_im : Cond.instanceMethod M_isStitched_y ∈ VV.ts := mt5 (List.mem_of_getElem? (i := 141) rfl)
theorem M_arePairs_im : Cond.instanceMethod M_arePairs_y ∈ VV.ts := mt5 (List.mem_of_getElem? (i := 146) rfl)
theorem M_sampleBytes_im : Cond.instanceMethod M_sampleBytes_y ∈ VV.ts := mt5 (List.mem_of_getElem? (i := 150) rfl)
theorem M_readWords_im : Cond.instanceMethod M_readWords_y ∈ VV.ts := mt5 (List.mem_of_getElem? (i := 155) rfl)
theorem M_signAt_im : Cond.instanceMethod M_signAt_y ∈ VV.ts := mt5 (List.mem_of_getElem? (i := 159) rfl)
theorem M_isBrace_st : Cond.static M_isBrace_y ∈ VV.ts := mt5 (List.mem_of_getElem? (i := 162) rfl)
theorem M_show_im : Cond.instanceMethod M_show_y ∈ VV.ts := mt5 (List.mem_of_getElem? (i := 166) rfl)
theorem M_isWord_im : Cond.instanceMethod M_isWord_y ∈ VV.ts := mt5 (List.mem_of_getElem? (i := 171) rfl)
theorem M_checkWord_im : Cond.instanceMethod M_checkWord_y ∈ VV.ts := mt5 (List.mem_of_getElem? (i := 178) rfl)
theorem M_isNumber_im : Cond.instanceMethod M_isNumber_y ∈ VV.ts := mt5 (List.mem_of_getElem? (i := 182) rfl)
theorem M_isDigit_st : Cond.static M_isDigit_y ∈ VV.ts := mt5 (List.mem_of_getElem? (i := 185) rfl)
theorem M_partOf_im : Cond.instanceMethod M_partOf_y ∈ VV.ts := mt5 (List.mem_of_getElem? (i := 189) rfl)
theorem M_nameOf_im : Cond.instanceMethod M_nameOf_y ∈ VV.ts := mt5 (List.mem_of_getElem? (i := 199) rfl)
theorem M_name_st : Cond.static M_name_y ∈ VV.ts := mt5 (List.mem_of_getElem? (i := 202) rfl)
theorem M_call_im : Cond.instanceMethod M_call_y ∈ VV.ts := mt5 (List.mem_of_getElem? (i := 239) rfl)
theorem M_call_se : Cond.selects "NumberFunctionsModel" M_call_y M_call_y ∈ VV.ts := mt6 (List.mem_of_getElem? (i := 0) rfl)
theorem M_stitched_im : Cond.instanceMethod M_stitched_y ∈ VV.ts := mt6 (List.mem_of_getElem? (i := 4) rfl)
theorem M_of_im : Cond.instanceMethod M_of_y ∈ VV.ts := mt6 (List.mem_of_getElem? (i := 8) rfl)
theorem M_cutTo_st : Cond.static M_cutTo_y ∈ VV.ts := mt6 (List.mem_of_getElem? (i := 11) rfl)
theorem M_laid_st : Cond.static M_laid_y ∈ VV.ts := mt6 (List.mem_of_getElem? (i := 14) rfl)
theorem M_down_st : Cond.static M_down_y ∈ VV.ts := mt6 (List.mem_of_getElem? (i := 17) rfl)
theorem M_kept_st : Cond.static M_kept_y ∈ VV.ts := mt6 (List.mem_of_getElem? (i := 21) rfl)
theorem M_samples_im : Cond.instanceMethod M_samples_y ∈ VV.ts := mt6 (List.mem_of_getElem? (i := 25) rfl)
theorem M_inputOf_im : Cond.instanceMethod M_inputOf_y ∈ VV.ts := mt6 (List.mem_of_getElem? (i := 29) rfl)
theorem M_interpolated_im : Cond.instanceMethod M_interpolated_y ∈ VV.ts := mt6 (List.mem_of_getElem? (i := 33) rfl)
theorem M_sampleAt_im : Cond.instanceMethod M_sampleAt_y ∈ VV.ts := mt6 (List.mem_of_getElem? (i := 37) rfl)
theorem M_decoded_im : Cond.instanceMethod M_decoded_y ∈ VV.ts := mt6 (List.mem_of_getElem? (i := 41) rfl)
theorem M_powers_im : Cond.instanceMethod M_powers_y ∈ VV.ts := mt6 (List.mem_of_getElem? (i := 45) rfl)
theorem M_times_st : Cond.static M_times_y ∈ VV.ts := mt6 (List.mem_of_getElem? (i := 48) rfl)
theorem M_program_im : Cond.instanceMethod M_program_y ∈ VV.ts := mt6 (List.mem_of_getElem? (i := 52) rfl)
theorem M_isGood_im : Cond.instanceMethod M_isGood_y ∈ VV.ts := mt6 (List.mem_of_getElem? (i := 56) rfl)
theorem M_next_im : Cond.instanceMethod M_next_y ∈ VV.ts := mt6 (List.mem_of_getElem? (i := 60) rfl)
theorem M_choose_im : Cond.instanceMethod M_choose_y ∈ VV.ts := mt6 (List.mem_of_getElem? (i := 66) rfl)
theorem M_matchOf_im : Cond.instanceMethod M_matchOf_y ∈ VV.ts := mt6 (List.mem_of_getElem? (i := 70) rfl)
theorem M_has_im : Cond.instanceMethod M_has_y ∈ VV.ts := mt6 (List.mem_of_getElem? (i := 74) rfl)
theorem M_fail_im : Cond.instanceMethod M_fail_y ∈ VV.ts := mt6 (List.mem_of_getElem? (i := 78) rfl)
theorem M_take_im : Cond.instanceMethod M_take_y ∈ VV.ts := mt6 (List.mem_of_getElem? (i := 82) rfl)
theorem M_putNumber_im : Cond.instanceMethod M_putNumber_y ∈ VV.ts := mt6 (List.mem_of_getElem? (i := 86) rfl)
theorem M_put_im : Cond.instanceMethod M_put_y ∈ VV.ts := mt6 (List.mem_of_getElem? (i := 90) rfl)
theorem M_perform_im : Cond.instanceMethod M_perform_y ∈ VV.ts := mt6 (List.mem_of_getElem? (i := 94) rfl)
theorem M_one_im : Cond.instanceMethod M_one_y ∈ VV.ts := mt6 (List.mem_of_getElem? (i := 98) rfl)
theorem M_areNumbers_im : Cond.instanceMethod M_areNumbers_y ∈ VV.ts := mt6 (List.mem_of_getElem? (i := 102) rfl)
theorem M_toZero_st : Cond.static M_toZero_y ∈ VV.ts := mt6 (List.mem_of_getElem? (i := 106) rfl)
theorem M_rootOf_st : Cond.static M_rootOf_y ∈ VV.ts := mt6 (List.mem_of_getElem? (i := 109) rfl)
theorem M_two_im : Cond.instanceMethod M_two_y ∈ VV.ts := mt6 (List.mem_of_getElem? (i := 115) rfl)
theorem M_areWhole_im : Cond.instanceMethod M_areWhole_y ∈ VV.ts := mt6 (List.mem_of_getElem? (i := 119) rfl)
theorem M_compare_im : Cond.instanceMethod M_compare_y ∈ VV.ts := mt6 (List.mem_of_getElem? (i := 123) rfl)
theorem M_putTruth_im : Cond.instanceMethod M_putTruth_y ∈ VV.ts := mt6 (List.mem_of_getElem? (i := 127) rfl)
theorem M_bits_im : Cond.instanceMethod M_bits_y ∈ VV.ts := mt6 (List.mem_of_getElem? (i := 131) rfl)
theorem M_join_im : Cond.instanceMethod M_join_y ∈ VV.ts := mt6 (List.mem_of_getElem? (i := 135) rfl)
theorem M_joined_st : Cond.static M_joined_y ∈ VV.ts := mt6 (List.mem_of_getElem? (i := 138) rfl)
theorem M_not_im : Cond.instanceMethod M_not_y ∈ VV.ts := mt6 (List.mem_of_getElem? (i := 142) rfl)
theorem M_shift_im : Cond.instanceMethod M_shift_y ∈ VV.ts := mt6 (List.mem_of_getElem? (i := 147) rfl)
theorem M_move_im : Cond.instanceMethod M_move_y ∈ VV.ts := mt6 (List.mem_of_getElem? (i := 153) rfl)
theorem M_turn_im : Cond.instanceMethod M_turn_y ∈ VV.ts := mt6 (List.mem_of_getElem? (i := 157) rfl)
theorem M_copy_im : Cond.instanceMethod M_copy_y ∈ VV.ts := mt6 (List.mem_of_getElem? (i := 161) rfl)
theorem M_isAmount_im : Cond.instanceMethod M_isAmount_y ∈ VV.ts := mt6 (List.mem_of_getElem? (i := 165) rfl)
theorem M_index_im : Cond.instanceMethod M_index_y ∈ VV.ts := mt6 (List.mem_of_getElem? (i := 170) rfl)
theorem M_roll_im : Cond.instanceMethod M_roll_y ∈ VV.ts := mt6 (List.mem_of_getElem? (i := 174) rfl)
theorem JMath_floorMod2_st : Cond.static JMath_floorMod2_y ∈ VV.ts := mt6 (List.mem_of_getElem? (i := 177) rfl)
theorem N_appendBytes_se : Cond.selects "NumberFunctions" N_appendBytes_y N_appendBytes_y ∈ VV.ts := List.mem_filter.mpr ⟨List.mem_append_left _ (List.mem_of_getElem? (i := 0) rfl), rfl⟩
theorem N_built_se : Cond.selects "NumberFunctions" N_built_y N_built_y ∈ VV.ts := List.mem_filter.mpr ⟨List.mem_append_left _ (List.mem_of_getElem? (i := 2) rfl), rfl⟩
theorem N_isTold_se : Cond.selects "NumberFunctions" N_isTold_y N_isTold_y ∈ VV.ts := List.mem_filter.mpr ⟨List.mem_append_left _ (List.mem_of_getElem? (i := 3) rfl), rfl⟩
theorem T_isPair_se : Cond.selects "NumberFunctions$Telling" T_isPair_y T_isPair_y ∈ VV.ts := List.mem_filter.mpr ⟨List.mem_append_left _ (List.mem_of_getElem? (i := 4) rfl), rfl⟩
theorem T_isOneOf_se : Cond.selects "NumberFunctions$Telling" T_isOneOf_y T_isOneOf_y ∈ VV.ts := List.mem_filter.mpr ⟨List.mem_append_left _ (List.mem_of_getElem? (i := 5) rfl), rfl⟩
theorem T_areBounds_se : Cond.selects "NumberFunctions$Telling" T_areBounds_y T_areBounds_y ∈ VV.ts := List.mem_filter.mpr ⟨List.mem_append_left _ (List.mem_of_getElem? (i := 6) rfl), rfl⟩
theorem N_builtSamples_se : Cond.selects "NumberFunctions" N_builtSamples_y N_builtSamples_y ∈ VV.ts := List.mem_filter.mpr ⟨List.mem_append_left _ (List.mem_of_getElem? (i := 7) rfl), rfl⟩
theorem R_wordStart_se : Cond.selects "NumberFunctions$Reader" R_wordStart_y R_wordStart_y ∈ VV.ts := List.mem_filter.mpr ⟨List.mem_append_left _ (List.mem_of_getElem? (i := 8) rfl), rfl⟩
theorem R_signAt_se : Cond.selects "NumberFunctions$Reader" R_signAt_y R_signAt_y ∈ VV.ts := List.mem_filter.mpr ⟨List.mem_append_left _ (List.mem_of_getElem? (i := 9) rfl), rfl⟩
theorem R_wordEnd_se : Cond.selects "NumberFunctions$Reader" R_wordEnd_y R_wordEnd_y ∈ VV.ts := List.mem_filter.mpr ⟨List.mem_append_left _ (List.mem_of_getElem? (i := 10) rfl), rfl⟩
theorem R_take_se : Cond.selects "NumberFunctions$Reader" R_take_y R_take_y ∈ VV.ts := List.mem_filter.mpr ⟨List.mem_append_left _ (List.mem_of_getElem? (i := 11) rfl), rfl⟩
theorem O_isAt_se : Cond.selects "NumberFunctions$Word" O_isAt_y O_isAt_y ∈ VV.ts := List.mem_filter.mpr ⟨List.mem_append_left _ (List.mem_of_getElem? (i := 12) rfl), rfl⟩
theorem R_isMisplaced_se : Cond.selects "NumberFunctions$Reader" R_isMisplaced_y R_isMisplaced_y ∈ VV.ts := List.mem_filter.mpr ⟨List.mem_append_left _ (List.mem_of_getElem? (i := 13) rfl), rfl⟩
theorem R_readNumeral_se : Cond.selects "NumberFunctions$Reader" R_readNumeral_y R_readNumeral_y ∈ VV.ts := List.mem_filter.mpr ⟨List.mem_append_left _ (List.mem_of_getElem? (i := 14) rfl), rfl⟩
theorem R_digitsEnd_se : Cond.selects "NumberFunctions$Reader" R_digitsEnd_y R_digitsEnd_y ∈ VV.ts := List.mem_filter.mpr ⟨List.mem_append_left _ (List.mem_of_getElem? (i := 15) rfl), rfl⟩
theorem R_wholePart_se : Cond.selects "NumberFunctions$Reader" R_wholePart_y R_wholePart_y ∈ VV.ts := List.mem_filter.mpr ⟨List.mem_append_left _ (List.mem_of_getElem? (i := 16) rfl), rfl⟩
theorem R_fractionPart_se : Cond.selects "NumberFunctions$Reader" R_fractionPart_y R_fractionPart_y ∈ VV.ts := List.mem_filter.mpr ⟨List.mem_append_left _ (List.mem_of_getElem? (i := 17) rfl), rfl⟩
theorem R_put_se : Cond.selects "NumberFunctions$Reader" R_put_y R_put_y ∈ VV.ts := List.mem_filter.mpr ⟨List.mem_append_left _ (List.mem_of_getElem? (i := 18) rfl), rfl⟩
theorem R_close_se : Cond.selects "NumberFunctions$Reader" R_close_y R_close_y ∈ VV.ts := List.mem_filter.mpr ⟨List.mem_append_left _ (List.mem_of_getElem? (i := 19) rfl), rfl⟩
theorem R_joinChoice_se : Cond.selects "NumberFunctions$Reader" R_joinChoice_y R_joinChoice_y ∈ VV.ts := List.mem_filter.mpr ⟨List.mem_append_left _ (List.mem_of_getElem? (i := 20) rfl), rfl⟩
theorem K_constant_se : Cond.selects "NumberFunctions$Machine" K_constant_y K_constant_y ∈ VV.ts := List.mem_filter.mpr ⟨List.mem_append_left _ (List.mem_of_getElem? (i := 21) rfl), rfl⟩
theorem K_giveTruth_se : Cond.selects "NumberFunctions$Machine" K_giveTruth_y K_giveTruth_y ∈ VV.ts := List.mem_filter.mpr ⟨List.mem_append_left _ (List.mem_of_getElem? (i := 22) rfl), rfl⟩
theorem K_oneNumber_se : Cond.selects "NumberFunctions$Machine" K_oneNumber_y K_oneNumber_y ∈ VV.ts := List.mem_filter.mpr ⟨List.mem_append_left _ (List.mem_of_getElem? (i := 23) rfl), rfl⟩
theorem K_twoNumbers_se : Cond.selects "NumberFunctions$Machine" K_twoNumbers_y K_twoNumbers_y ∈ VV.ts := List.mem_filter.mpr ⟨List.mem_append_left _ (List.mem_of_getElem? (i := 24) rfl), rfl⟩
theorem K_twoWholes_se : Cond.selects "NumberFunctions$Machine" K_twoWholes_y K_twoWholes_y ∈ VV.ts := List.mem_filter.mpr ⟨List.mem_append_left _ (List.mem_of_getElem? (i := 25) rfl), rfl⟩
theorem K_faultOfWholes_se : Cond.selects "NumberFunctions$Machine" K_faultOfWholes_y K_faultOfWholes_y ∈ VV.ts := List.mem_filter.mpr ⟨List.mem_append_left _ (List.mem_of_getElem? (i := 26) rfl), rfl⟩
theorem K_giveWhole_se : Cond.selects "NumberFunctions$Machine" K_giveWhole_y K_giveWhole_y ∈ VV.ts := List.mem_filter.mpr ⟨List.mem_append_left _ (List.mem_of_getElem? (i := 27) rfl), rfl⟩
theorem K_comparison_se : Cond.selects "NumberFunctions$Machine" K_comparison_y K_comparison_y ∈ VV.ts := List.mem_filter.mpr ⟨List.mem_append_left _ (List.mem_of_getElem? (i := 28) rfl), rfl⟩
theorem K_negation_se : Cond.selects "NumberFunctions$Machine" K_negation_y K_negation_y ∈ VV.ts := List.mem_filter.mpr ⟨List.mem_append_left _ (List.mem_of_getElem? (i := 29) rfl), rfl⟩
theorem K_logic_se : Cond.selects "NumberFunctions$Machine" K_logic_y K_logic_y ∈ VV.ts := List.mem_filter.mpr ⟨List.mem_append_left _ (List.mem_of_getElem? (i := 30) rfl), rfl⟩
theorem K_move_se : Cond.selects "NumberFunctions$Machine" K_move_y K_move_y ∈ VV.ts := List.mem_filter.mpr ⟨List.mem_append_left _ (List.mem_of_getElem? (i := 31) rfl), rfl⟩
theorem K_reverse_se : Cond.selects "NumberFunctions$Machine" K_reverse_y K_reverse_y ∈ VV.ts := List.mem_filter.mpr ⟨List.mem_append_left _ (List.mem_of_getElem? (i := 32) rfl), rfl⟩
theorem K_roll_se : Cond.selects "NumberFunctions$Machine" K_roll_y K_roll_y ∈ VV.ts := List.mem_filter.mpr ⟨List.mem_append_left _ (List.mem_of_getElem? (i := 33) rfl), rfl⟩
theorem K_turn_se : Cond.selects "NumberFunctions$Machine" K_turn_y K_turn_y ∈ VV.ts := List.mem_filter.mpr ⟨List.mem_append_left _ (List.mem_of_getElem? (i := 34) rfl), rfl⟩
theorem K_reach_se : Cond.selects "NumberFunctions$Machine" K_reach_y K_reach_y ∈ VV.ts := List.mem_filter.mpr ⟨List.mem_append_left _ (List.mem_of_getElem? (i := 35) rfl), rfl⟩
theorem K_copyUpper_se : Cond.selects "NumberFunctions$Machine" K_copyUpper_y K_copyUpper_y ∈ VV.ts := List.mem_filter.mpr ⟨List.mem_append_left _ (List.mem_of_getElem? (i := 36) rfl), rfl⟩
theorem K_choice_se : Cond.selects "NumberFunctions$Machine" K_choice_y K_choice_y ∈ VV.ts := List.mem_filter.mpr ⟨List.mem_append_left _ (List.mem_of_getElem? (i := 37) rfl), rfl⟩
theorem G_takeResults_se : Cond.selects "NumberFunctions$Program" G_takeResults_y G_takeResults_y ∈ VV.ts := List.mem_filter.mpr ⟨List.mem_append_left _ (List.mem_of_getElem? (i := 38) rfl), rfl⟩
theorem S_locate_se : Cond.selects "NumberFunctions$Samples" S_locate_y S_locate_y ∈ VV.ts := List.mem_filter.mpr ⟨List.mem_append_left _ (List.mem_of_getElem? (i := 39) rfl), rfl⟩
theorem S_between_se : Cond.selects "NumberFunctions$Samples" S_between_y S_between_y ∈ VV.ts := List.mem_filter.mpr ⟨List.mem_append_left _ (List.mem_of_getElem? (i := 40) rfl), rfl⟩
theorem S_placeOf_se : Cond.selects "NumberFunctions$Samples" S_placeOf_y S_placeOf_y ∈ VV.ts := List.mem_filter.mpr ⟨List.mem_append_left _ (List.mem_of_getElem? (i := 41) rfl), rfl⟩
theorem S_sample_se : Cond.selects "NumberFunctions$Samples" S_sample_y S_sample_y ∈ VV.ts := List.mem_filter.mpr ⟨List.mem_append_left _ (List.mem_of_getElem? (i := 42) rfl), rfl⟩
theorem S_bitAt_se : Cond.selects "NumberFunctions$Samples" S_bitAt_y S_bitAt_y ∈ VV.ts := List.mem_filter.mpr ⟨List.mem_append_left _ (List.mem_of_getElem? (i := 43) rfl), rfl⟩
theorem M_refused_se : Cond.selects "NumberFunctionsModel" M_refused_y M_refused_y ∈ VV.ts := List.mem_filter.mpr ⟨List.mem_append_left _ (List.mem_of_getElem? (i := 44) rfl), rfl⟩
theorem M_tellFault_se : Cond.selects "NumberFunctionsModel" M_tellFault_y M_tellFault_y ∈ VV.ts := List.mem_filter.mpr ⟨List.mem_append_left _ (List.mem_of_getElem? (i := 45) rfl), rfl⟩
theorem M_isTold_se : Cond.selects "NumberFunctionsModel" M_isTold_y M_isTold_y ∈ VV.ts := List.mem_filter.mpr ⟨List.mem_append_left _ (List.mem_of_getElem? (i := 46) rfl), rfl⟩
theorem M_isSamples_se : Cond.selects "NumberFunctionsModel" M_isSamples_y M_isSamples_y ∈ VV.ts := List.mem_filter.mpr ⟨List.mem_append_left _ (List.mem_of_getElem? (i := 47) rfl), rfl⟩
theorem M_isPair_se : Cond.selects "NumberFunctionsModel" M_isPair_y M_isPair_y ∈ VV.ts := List.mem_filter.mpr ⟨List.mem_append_left _ (List.mem_of_getElem? (i := 48) rfl), rfl⟩
theorem M_isPowers_se : Cond.selects "NumberFunctionsModel" M_isPowers_y M_isPowers_y ∈ VV.ts := List.mem_filter.mpr ⟨List.mem_append_left _ (List.mem_of_getElem? (i := 49) rfl), rfl⟩
theorem M_isStitched_se : Cond.selects "NumberFunctionsModel" M_isStitched_y M_isStitched_y ∈ VV.ts := List.mem_filter.mpr ⟨List.mem_append_left _ (List.mem_of_getElem? (i := 50) rfl), rfl⟩
theorem M_arePairs_se : Cond.selects "NumberFunctionsModel" M_arePairs_y M_arePairs_y ∈ VV.ts := List.mem_filter.mpr ⟨List.mem_append_left _ (List.mem_of_getElem? (i := 51) rfl), rfl⟩
theorem M_sampleBytes_se : Cond.selects "NumberFunctionsModel" M_sampleBytes_y M_sampleBytes_y ∈ VV.ts := List.mem_filter.mpr ⟨List.mem_append_left _ (List.mem_of_getElem? (i := 52) rfl), rfl⟩
theorem M_readWords_se : Cond.selects "NumberFunctionsModel" M_readWords_y M_readWords_y ∈ VV.ts := List.mem_filter.mpr ⟨List.mem_append_left _ (List.mem_of_getElem? (i := 53) rfl), rfl⟩
theorem M_signAt_se : Cond.selects "NumberFunctionsModel" M_signAt_y M_signAt_y ∈ VV.ts := List.mem_filter.mpr ⟨List.mem_append_left _ (List.mem_of_getElem? (i := 54) rfl), rfl⟩
theorem M_show_se : Cond.selects "NumberFunctionsModel" M_show_y M_show_y ∈ VV.ts := List.mem_filter.mpr ⟨List.mem_append_left _ (List.mem_of_getElem? (i := 55) rfl), rfl⟩
theorem M_isWord_se : Cond.selects "NumberFunctionsModel" M_isWord_y M_isWord_y ∈ VV.ts := List.mem_filter.mpr ⟨List.mem_append_left _ (List.mem_of_getElem? (i := 56) rfl), rfl⟩
theorem M_checkWord_se : Cond.selects "NumberFunctionsModel" M_checkWord_y M_checkWord_y ∈ VV.ts := List.mem_filter.mpr ⟨List.mem_append_left _ (List.mem_of_getElem? (i := 57) rfl), rfl⟩
theorem M_isNumber_se : Cond.selects "NumberFunctionsModel" M_isNumber_y M_isNumber_y ∈ VV.ts := List.mem_filter.mpr ⟨List.mem_append_left _ (List.mem_of_getElem? (i := 58) rfl), rfl⟩
theorem M_partOf_se : Cond.selects "NumberFunctionsModel" M_partOf_y M_partOf_y ∈ VV.ts := List.mem_filter.mpr ⟨List.mem_append_left _ (List.mem_of_getElem? (i := 59) rfl), rfl⟩
theorem M_nameOf_se : Cond.selects "NumberFunctionsModel" M_nameOf_y M_nameOf_y ∈ VV.ts := List.mem_filter.mpr ⟨List.mem_append_left _ (List.mem_of_getElem? (i := 60) rfl), rfl⟩
theorem M_stitched_se : Cond.selects "NumberFunctionsModel" M_stitched_y M_stitched_y ∈ VV.ts := List.mem_filter.mpr ⟨List.mem_append_left _ (List.mem_of_getElem? (i := 61) rfl), rfl⟩
theorem M_of_se : Cond.selects "NumberFunctionsModel" M_of_y M_of_y ∈ VV.ts := List.mem_filter.mpr ⟨List.mem_append_left _ (List.mem_of_getElem? (i := 62) rfl), rfl⟩
theorem M_samples_se : Cond.selects "NumberFunctionsModel" M_samples_y M_samples_y ∈ VV.ts := List.mem_filter.mpr ⟨List.mem_append_left _ (List.mem_of_getElem? (i := 63) rfl), rfl⟩
theorem M_inputOf_se : Cond.selects "NumberFunctionsModel" M_inputOf_y M_inputOf_y ∈ VV.ts := List.mem_filter.mpr ⟨List.mem_append_left _ (List.mem_of_getElem? (i := 64) rfl), rfl⟩
theorem M_interpolated_se : Cond.selects "NumberFunctionsModel" M_interpolated_y M_interpolated_y ∈ VV.ts := List.mem_filter.mpr ⟨List.mem_append_left _ (List.mem_of_getElem? (i := 65) rfl), rfl⟩
theorem M_sampleAt_se : Cond.selects "NumberFunctionsModel" M_sampleAt_y M_sampleAt_y ∈ VV.ts := List.mem_filter.mpr ⟨List.mem_append_left _ (List.mem_of_getElem? (i := 66) rfl), rfl⟩
theorem M_decoded_se : Cond.selects "NumberFunctionsModel" M_decoded_y M_decoded_y ∈ VV.ts := List.mem_filter.mpr ⟨List.mem_append_left _ (List.mem_of_getElem? (i := 67) rfl), rfl⟩
theorem M_powers_se : Cond.selects "NumberFunctionsModel" M_powers_y M_powers_y ∈ VV.ts := List.mem_filter.mpr ⟨List.mem_append_left _ (List.mem_of_getElem? (i := 68) rfl), rfl⟩
theorem M_program_se : Cond.selects "NumberFunctionsModel" M_program_y M_program_y ∈ VV.ts := List.mem_filter.mpr ⟨List.mem_append_left _ (List.mem_of_getElem? (i := 69) rfl), rfl⟩
theorem M_isGood_se : Cond.selects "NumberFunctionsModel" M_isGood_y M_isGood_y ∈ VV.ts := List.mem_filter.mpr ⟨List.mem_append_left _ (List.mem_of_getElem? (i := 70) rfl), rfl⟩
theorem M_next_se : Cond.selects "NumberFunctionsModel" M_next_y M_next_y ∈ VV.ts := List.mem_filter.mpr ⟨List.mem_append_left _ (List.mem_of_getElem? (i := 71) rfl), rfl⟩
theorem M_choose_se : Cond.selects "NumberFunctionsModel" M_choose_y M_choose_y ∈ VV.ts := List.mem_filter.mpr ⟨List.mem_append_left _ (List.mem_of_getElem? (i := 72) rfl), rfl⟩
theorem M_matchOf_se : Cond.selects "NumberFunctionsModel" M_matchOf_y M_matchOf_y ∈ VV.ts := List.mem_filter.mpr ⟨List.mem_append_left _ (List.mem_of_getElem? (i := 73) rfl), rfl⟩
theorem M_has_se : Cond.selects "NumberFunctionsModel" M_has_y M_has_y ∈ VV.ts := List.mem_filter.mpr ⟨List.mem_append_left _ (List.mem_of_getElem? (i := 74) rfl), rfl⟩
theorem M_fail_se : Cond.selects "NumberFunctionsModel" M_fail_y M_fail_y ∈ VV.ts := List.mem_filter.mpr ⟨List.mem_append_left _ (List.mem_of_getElem? (i := 75) rfl), rfl⟩
theorem M_take_se : Cond.selects "NumberFunctionsModel" M_take_y M_take_y ∈ VV.ts := List.mem_filter.mpr ⟨List.mem_append_left _ (List.mem_of_getElem? (i := 76) rfl), rfl⟩
theorem M_putNumber_se : Cond.selects "NumberFunctionsModel" M_putNumber_y M_putNumber_y ∈ VV.ts := List.mem_filter.mpr ⟨List.mem_append_left _ (List.mem_of_getElem? (i := 77) rfl), rfl⟩
theorem M_put_se : Cond.selects "NumberFunctionsModel" M_put_y M_put_y ∈ VV.ts := List.mem_filter.mpr ⟨List.mem_append_left _ (List.mem_of_getElem? (i := 78) rfl), rfl⟩
theorem M_perform_se : Cond.selects "NumberFunctionsModel" M_perform_y M_perform_y ∈ VV.ts := List.mem_filter.mpr ⟨List.mem_append_left _ (List.mem_of_getElem? (i := 79) rfl), rfl⟩
theorem M_one_se : Cond.selects "NumberFunctionsModel" M_one_y M_one_y ∈ VV.ts := List.mem_filter.mpr ⟨List.mem_append_left _ (List.mem_of_getElem? (i := 80) rfl), rfl⟩
theorem M_areNumbers_se : Cond.selects "NumberFunctionsModel" M_areNumbers_y M_areNumbers_y ∈ VV.ts := List.mem_filter.mpr ⟨List.mem_append_left _ (List.mem_of_getElem? (i := 81) rfl), rfl⟩
theorem M_two_se : Cond.selects "NumberFunctionsModel" M_two_y M_two_y ∈ VV.ts := List.mem_filter.mpr ⟨List.mem_append_left _ (List.mem_of_getElem? (i := 82) rfl), rfl⟩
theorem M_areWhole_se : Cond.selects "NumberFunctionsModel" M_areWhole_y M_areWhole_y ∈ VV.ts := List.mem_filter.mpr ⟨List.mem_append_left _ (List.mem_of_getElem? (i := 83) rfl), rfl⟩
theorem M_compare_se : Cond.selects "NumberFunctionsModel" M_compare_y M_compare_y ∈ VV.ts := List.mem_filter.mpr ⟨List.mem_append_left _ (List.mem_of_getElem? (i := 84) rfl), rfl⟩
theorem M_putTruth_se : Cond.selects "NumberFunctionsModel" M_putTruth_y M_putTruth_y ∈ VV.ts := List.mem_filter.mpr ⟨List.mem_append_left _ (List.mem_of_getElem? (i := 85) rfl), rfl⟩
theorem M_bits_se : Cond.selects "NumberFunctionsModel" M_bits_y M_bits_y ∈ VV.ts := List.mem_filter.mpr ⟨List.mem_append_left _ (List.mem_of_getElem? (i := 86) rfl), rfl⟩
theorem M_join_se : Cond.selects "NumberFunctionsModel" M_join_y M_join_y ∈ VV.ts := List.mem_filter.mpr ⟨List.mem_append_left _ (List.mem_of_getElem? (i := 87) rfl), rfl⟩
theorem M_not_se : Cond.selects "NumberFunctionsModel" M_not_y M_not_y ∈ VV.ts := List.mem_filter.mpr ⟨List.mem_append_left _ (List.mem_of_getElem? (i := 88) rfl), rfl⟩
theorem M_shift_se : Cond.selects "NumberFunctionsModel" M_shift_y M_shift_y ∈ VV.ts := List.mem_filter.mpr ⟨List.mem_append_left _ (List.mem_of_getElem? (i := 89) rfl), rfl⟩
theorem M_move_se : Cond.selects "NumberFunctionsModel" M_move_y M_move_y ∈ VV.ts := List.mem_filter.mpr ⟨List.mem_append_left _ (List.mem_of_getElem? (i := 90) rfl), rfl⟩
theorem M_turn_se : Cond.selects "NumberFunctionsModel" M_turn_y M_turn_y ∈ VV.ts := List.mem_filter.mpr ⟨List.mem_append_left _ (List.mem_of_getElem? (i := 91) rfl), rfl⟩
theorem M_copy_se : Cond.selects "NumberFunctionsModel" M_copy_y M_copy_y ∈ VV.ts := List.mem_filter.mpr ⟨List.mem_append_left _ (List.mem_of_getElem? (i := 92) rfl), rfl⟩
theorem M_isAmount_se : Cond.selects "NumberFunctionsModel" M_isAmount_y M_isAmount_y ∈ VV.ts := List.mem_filter.mpr ⟨List.mem_append_left _ (List.mem_of_getElem? (i := 93) rfl), rfl⟩
theorem M_index_se : Cond.selects "NumberFunctionsModel" M_index_y M_index_y ∈ VV.ts := List.mem_filter.mpr ⟨List.mem_append_left _ (List.mem_of_getElem? (i := 94) rfl), rfl⟩
theorem M_roll_se : Cond.selects "NumberFunctionsModel" M_roll_y M_roll_y ∈ VV.ts := List.mem_filter.mpr ⟨List.mem_append_left _ (List.mem_of_getElem? (i := 95) rfl), rfl⟩
end
section
theorem cb_L_36 : ax_CB VV "NumberFunctionsLaw" 36 N_init_y N_init_c 1 none 0 := ⟨mt1 (List.mem_of_getElem? (i := 31) rfl), mt1 (List.mem_of_getElem? (i := 1) rfl), mt1 (List.mem_of_getElem? (i := 33) rfl), by decide +kernel⟩
theorem cb_N_19 : ax_CB VV "NumberFunctions" 19 T_init_y T_init_c 1 none 0 := ⟨mt1 (List.mem_of_getElem? (i := 39) rfl), mt1 (List.mem_of_getElem? (i := 2) rfl), mt1 (List.mem_of_getElem? (i := 41) rfl), by decide +kernel⟩
theorem cb_N_45 : ax_CB VV "NumberFunctions" 45 U_init_y U_init_c 1 none 0 := ⟨mt1 (List.mem_of_getElem? (i := 58) rfl), mt1 (List.mem_of_getElem? (i := 3) rfl), mt1 (List.mem_of_getElem? (i := 60) rfl), by decide +kernel⟩
theorem cb_N_52 : ax_CB VV "NumberFunctions" 52 R_init_y R_init_c 1 none 0 := ⟨mt1 (List.mem_of_getElem? (i := 73) rfl), mt1 (List.mem_of_getElem? (i := 4) rfl), mt1 (List.mem_of_getElem? (i := 75) rfl), by decide +kernel⟩
theorem cb_N_59 : ax_CB VV "NumberFunctions" 59 K_init_y K_init_c 1 none 0 := ⟨mt1 (List.mem_of_getElem? (i := 126) rfl), mt1 (List.mem_of_getElem? (i := 5) rfl), mt1 (List.mem_of_getElem? (i := 128) rfl), by decide +kernel⟩
theorem cb_L_40 : ax_CB VV "NumberFunctionsLaw" 40 N_feed_y N_feed_c 6 (some .int) 5 := ⟨mt1 (List.mem_of_getElem? (i := 181) rfl), mt1 (List.mem_of_getElem? (i := 1) rfl), mt1 (List.mem_of_getElem? (i := 184) rfl), by decide +kernel⟩
theorem cb_N_64 : ax_CB VV "NumberFunctions" 64 N_appendBytes_y N_appendBytes_c 3 none 1 := ⟨mt1 (List.mem_of_getElem? (i := 185) rfl), mt1 (List.mem_of_getElem? (i := 1) rfl), mt1 (List.mem_of_getElem? (i := 188) rfl), by decide +kernel⟩
theorem cb_L_58 : ax_CB VV "NumberFunctionsLaw" 58 N_drop_y N_drop_c 2 (some .int) 0 := ⟨mt1 (List.mem_of_getElem? (i := 189) rfl), mt1 (List.mem_of_getElem? (i := 1) rfl), mt1 (List.mem_of_getElem? (i := 192) rfl), by decide +kernel⟩
theorem cb_L_66 : ax_CB VV "NumberFunctionsLaw" 66 N_clear_y N_clear_c 3 (some .int) 0 := ⟨mt1 (List.mem_of_getElem? (i := 193) rfl), mt1 (List.mem_of_getElem? (i := 1) rfl), mt1 (List.mem_of_getElem? (i := 196) rfl), by decide +kernel⟩
theorem cb_L_80 : ax_CB VV "NumberFunctionsLaw" 80 N_fault_y N_fault_c 2 (some .int) 1 := ⟨mt1 (List.mem_of_getElem? (i := 197) rfl), mt1 (List.mem_of_getElem? (i := 1) rfl), mt1 (List.mem_of_getElem? (i := 200) rfl), by decide +kernel⟩
theorem cb_L_7 : ax_CB VV "NumberFunctionsLaw" 7 N_cut_y N_cut_c 3 (some .int) 1 := ⟨mt1 (List.mem_of_getElem? (i := 205) rfl), mt1 (List.mem_of_getElem? (i := 1) rfl), mt1 (List.mem_of_getElem? (i := 208) rfl), by decide +kernel⟩
theorem cb_N_72 : ax_CB VV "NumberFunctions" 72 JIllegalArgumentException_init_y JIllegalArgumentException_init_c 2 none 1 := ⟨mt2 (List.mem_of_getElem? (i := 11) rfl), mt1 (List.mem_of_getElem? (i := 10) rfl), mt2 (List.mem_of_getElem? (i := 13) rfl), by decide +kernel⟩
theorem cb_JIllegalArgumentException_7 : ax_CB VV "java/lang/IllegalArgumentException" 7 JRuntimeException_init_y JRuntimeException_init_c 2 none 1 := ⟨mt2 (List.mem_of_getElem? (i := 14) rfl), mt1 (List.mem_of_getElem? (i := 9) rfl), mt2 (List.mem_of_getElem? (i := 16) rfl), by decide +kernel⟩
theorem cb_JRuntimeException_7 : ax_CB VV "java/lang/RuntimeException" 7 JException_init_y JException_init_c 2 none 1 := ⟨mt2 (List.mem_of_getElem? (i := 17) rfl), mt1 (List.mem_of_getElem? (i := 8) rfl), mt2 (List.mem_of_getElem? (i := 19) rfl), by decide +kernel⟩
theorem cb_JException_7 : ax_CB VV "java/lang/Exception" 7 JThrowable_init2_y JThrowable_init2_c 2 none 1 := ⟨mt2 (List.mem_of_getElem? (i := 20) rfl), mt1 (List.mem_of_getElem? (i := 7) rfl), mt2 (List.mem_of_getElem? (i := 22) rfl), by decide +kernel⟩
theorem cb_N_75 : ax_CB VV "NumberFunctions" 75 JMath_max1_y JMath_max1_c 2 (some .int) 2 := ⟨mt2 (List.mem_of_getElem? (i := 36) rfl), mt1 (List.mem_of_getElem? (i := 11) rfl), mt2 (List.mem_of_getElem? (i := 38) rfl), by decide +kernel⟩
theorem cb_L_15 : ax_CB VV "NumberFunctionsLaw" 15 N_tell_y N_tell_c 2 (some .int) 1 := ⟨mt2 (List.mem_of_getElem? (i := 43) rfl), mt1 (List.mem_of_getElem? (i := 1) rfl), mt2 (List.mem_of_getElem? (i := 46) rfl), by decide +kernel⟩
theorem cb_N_81 : ax_CB VV "NumberFunctions" 81 N_isNumber_y N_isNumber_c 1 (some .boolean) 1 := ⟨mt2 (List.mem_of_getElem? (i := 47) rfl), mt1 (List.mem_of_getElem? (i := 1) rfl), mt2 (List.mem_of_getElem? (i := 49) rfl), by decide +kernel⟩
theorem cb_N_94 : ax_CB VV "NumberFunctions" 94 JIllegalStateException_init_y JIllegalStateException_init_c 2 none 1 := ⟨mt2 (List.mem_of_getElem? (i := 63) rfl), mt1 (List.mem_of_getElem? (i := 12) rfl), mt2 (List.mem_of_getElem? (i := 65) rfl), by decide +kernel⟩
theorem cb_JIllegalStateException_7 : ax_CB VV "java/lang/IllegalStateException" 7 JRuntimeException_init_y JRuntimeException_init_c 2 none 1 := ⟨mt2 (List.mem_of_getElem? (i := 66) rfl), mt1 (List.mem_of_getElem? (i := 9) rfl), mt2 (List.mem_of_getElem? (i := 16) rfl), by decide +kernel⟩
theorem cb_L_20 : ax_CB VV "NumberFunctionsLaw" 20 N_make_y N_make_c 5 (some .int) 3 := ⟨mt2 (List.mem_of_getElem? (i := 72) rfl), mt1 (List.mem_of_getElem? (i := 1) rfl), mt2 (List.mem_of_getElem? (i := 75) rfl), by decide +kernel⟩
theorem cb_N_98 : ax_CB VV "NumberFunctions" 98 N_inputLimit_y N_inputLimit_c 1 (some .int) 1 := ⟨mt2 (List.mem_of_getElem? (i := 76) rfl), mt1 (List.mem_of_getElem? (i := 1) rfl), mt2 (List.mem_of_getElem? (i := 78) rfl), by decide +kernel⟩
theorem cb_N_108 : ax_CB VV "NumberFunctions" 108 U_set_y U_set_c 3 none 2 := ⟨mt2 (List.mem_of_getElem? (i := 82) rfl), mt1 (List.mem_of_getElem? (i := 3) rfl), mt2 (List.mem_of_getElem? (i := 85) rfl), by decide +kernel⟩
theorem cb_N_112 : ax_CB VV "NumberFunctions" 112 N_built_y N_built_c 5 (some (.object "NumberFunctions$Function")) 3 := ⟨mt2 (List.mem_of_getElem? (i := 86) rfl), mt1 (List.mem_of_getElem? (i := 1) rfl), mt2 (List.mem_of_getElem? (i := 89) rfl), by decide +kernel⟩
theorem cb_N_146 : ax_CB VV "NumberFunctions" 146 N_isTold_y N_isTold_c 4 (some .boolean) 3 := ⟨mt2 (List.mem_of_getElem? (i := 90) rfl), mt1 (List.mem_of_getElem? (i := 1) rfl), mt2 (List.mem_of_getElem? (i := 93) rfl), by decide +kernel⟩
theorem cb_N_179 : ax_CB VV "NumberFunctions" 179 T_saysSamples_y T_saysSamples_c 6 (some .boolean) 2 := ⟨mt2 (List.mem_of_getElem? (i := 94) rfl), mt1 (List.mem_of_getElem? (i := 2) rfl), mt2 (List.mem_of_getElem? (i := 97) rfl), by decide +kernel⟩
theorem cb_T_19 : ax_CB VV "NumberFunctions$Telling" 19 T_isSampleBits_y T_isSampleBits_c 1 (some .boolean) 1 := ⟨mt2 (List.mem_of_getElem? (i := 98) rfl), mt1 (List.mem_of_getElem? (i := 2) rfl), mt2 (List.mem_of_getElem? (i := 100) rfl), by decide +kernel⟩
theorem cb_T_23 : ax_CB VV "NumberFunctions$Telling" 23 T_isPair_y T_isPair_c 2 (some .boolean) 1 := ⟨mt2 (List.mem_of_getElem? (i := 101) rfl), mt1 (List.mem_of_getElem? (i := 2) rfl), mt2 (List.mem_of_getElem? (i := 104) rfl), by decide +kernel⟩
theorem cb_T_26 : ax_CB VV "NumberFunctions$Telling" 26 T_isOneOf_y T_isOneOf_c 4 (some .boolean) 3 := ⟨mt2 (List.mem_of_getElem? (i := 105) rfl), mt1 (List.mem_of_getElem? (i := 2) rfl), mt2 (List.mem_of_getElem? (i := 108) rfl), by decide +kernel⟩
theorem cb_N_183 : ax_CB VV "NumberFunctions" 183 T_saysPowers_y T_saysPowers_c 2 (some .boolean) 1 := ⟨mt2 (List.mem_of_getElem? (i := 109) rfl), mt1 (List.mem_of_getElem? (i := 2) rfl), mt2 (List.mem_of_getElem? (i := 112) rfl), by decide +kernel⟩
theorem cb_N_186 : ax_CB VV "NumberFunctions" 186 T_saysStitched_y T_saysStitched_c 7 (some .boolean) 3 := ⟨mt2 (List.mem_of_getElem? (i := 113) rfl), mt1 (List.mem_of_getElem? (i := 2) rfl), mt2 (List.mem_of_getElem? (i := 116) rfl), by decide +kernel⟩
theorem cb_T_30 : ax_CB VV "NumberFunctions$Telling" 30 T_isPart_y T_isPart_c 2 (some .boolean) 2 := ⟨mt2 (List.mem_of_getElem? (i := 117) rfl), mt1 (List.mem_of_getElem? (i := 2) rfl), mt2 (List.mem_of_getElem? (i := 119) rfl), by decide +kernel⟩
theorem cb_T_34 : ax_CB VV "NumberFunctions$Telling" 34 T_areBounds_y T_areBounds_c 6 (some .boolean) 2 := ⟨mt2 (List.mem_of_getElem? (i := 120) rfl), mt1 (List.mem_of_getElem? (i := 2) rfl), mt2 (List.mem_of_getElem? (i := 123) rfl), by decide +kernel⟩
theorem cb_N_190 : ax_CB VV "NumberFunctions" 190 T_saysProgram_y T_saysProgram_c 5 (some .boolean) 2 := ⟨mt2 (List.mem_of_getElem? (i := 124) rfl), mt1 (List.mem_of_getElem? (i := 2) rfl), mt2 (List.mem_of_getElem? (i := 127) rfl), by decide +kernel⟩
theorem cb_N_150 : ax_CB VV "NumberFunctions" 150 JArrays_copyOf1_y JArrays_copyOf1_c 3 (some (.array .int)) 2 := ⟨mt2 (List.mem_of_getElem? (i := 128) rfl), mt1 (List.mem_of_getElem? (i := 13) rfl), mt2 (List.mem_of_getElem? (i := 130) rfl), by decide +kernel⟩
theorem cb_JArrays_304 : ax_CB VV "java/util/Arrays" 304 JMath_min1_y JMath_min1_c 2 (some .int) 2 := ⟨mt2 (List.mem_of_getElem? (i := 138) rfl), mt1 (List.mem_of_getElem? (i := 11) rfl), mt2 (List.mem_of_getElem? (i := 140) rfl), by decide +kernel⟩
theorem cb_N_156 : ax_CB VV "NumberFunctions" 156 N_builtSamples_y N_builtSamples_c 5 (some (.object "NumberFunctions$Function")) 3 := ⟨mt2 (List.mem_of_getElem? (i := 144) rfl), mt1 (List.mem_of_getElem? (i := 1) rfl), mt2 (List.mem_of_getElem? (i := 147) rfl), by decide +kernel⟩
theorem cb_N_193 : ax_CB VV "NumberFunctions" 193 S_bytesNeeded_y S_bytesNeeded_c 5 (some .int) 3 := ⟨mt2 (List.mem_of_getElem? (i := 148) rfl), mt1 (List.mem_of_getElem? (i := 16) rfl), mt2 (List.mem_of_getElem? (i := 150) rfl), by decide +kernel⟩
theorem cb_N_199 : ax_CB VV "NumberFunctions" 199 JArrays_copyOf2_y JArrays_copyOf2_c 3 (some (.array .byte)) 2 := ⟨mt2 (List.mem_of_getElem? (i := 153) rfl), mt1 (List.mem_of_getElem? (i := 13) rfl), mt2 (List.mem_of_getElem? (i := 155) rfl), by decide +kernel⟩
theorem cb_N_202 : ax_CB VV "NumberFunctions" 202 S_init_y S_init_c 5 none 4 := ⟨mt2 (List.mem_of_getElem? (i := 161) rfl), mt1 (List.mem_of_getElem? (i := 16) rfl), mt2 (List.mem_of_getElem? (i := 163) rfl), by decide +kernel⟩
theorem cb_S_3 : ax_CB VV "NumberFunctions$Samples" 3 F_init_y F_init_c 4 none 3 := ⟨mt2 (List.mem_of_getElem? (i := 164) rfl), mt1 (List.mem_of_getElem? (i := 15) rfl), mt2 (List.mem_of_getElem? (i := 166) rfl), by decide +kernel⟩
theorem cb_N_162 : ax_CB VV "NumberFunctions" 162 P_init_y P_init_c 3 none 2 := ⟨mt2 (List.mem_of_getElem? (i := 215) rfl), mt1 (List.mem_of_getElem? (i := 17) rfl), mt2 (List.mem_of_getElem? (i := 217) rfl), by decide +kernel⟩
theorem cb_P_3 : ax_CB VV "NumberFunctions$Powers" 3 F_init_y F_init_c 4 none 3 := ⟨mt2 (List.mem_of_getElem? (i := 218) rfl), mt1 (List.mem_of_getElem? (i := 15) rfl), mt2 (List.mem_of_getElem? (i := 166) rfl), by decide +kernel⟩
theorem cb_N_167 : ax_CB VV "NumberFunctions" 167 Z_init_y Z_init_c 5 none 3 := ⟨mt2 (List.mem_of_getElem? (i := 225) rfl), mt1 (List.mem_of_getElem? (i := 18) rfl), mt2 (List.mem_of_getElem? (i := 227) rfl), by decide +kernel⟩
theorem cb_Z_3 : ax_CB VV "NumberFunctions$Stitched" 3 F_init_y F_init_c 4 none 3 := ⟨mt2 (List.mem_of_getElem? (i := 228) rfl), mt1 (List.mem_of_getElem? (i := 15) rfl), mt2 (List.mem_of_getElem? (i := 166) rfl), by decide +kernel⟩
theorem cb_N_170 : ax_CB VV "NumberFunctions" 170 R_read_y R_read_c 8 none 3 := ⟨mt2 (List.mem_of_getElem? (i := 237) rfl), mt1 (List.mem_of_getElem? (i := 4) rfl), mt3 (List.mem_of_getElem? (i := 0) rfl), by decide +kernel⟩
theorem cb_R_53 : ax_CB VV "NumberFunctions$Reader" 53 R_wordStart_y R_wordStart_c 3 (some .int) 1 := ⟨mt3 (List.mem_of_getElem? (i := 1) rfl), mt1 (List.mem_of_getElem? (i := 4) rfl), mt3 (List.mem_of_getElem? (i := 4) rfl), by decide +kernel⟩
theorem cb_R_70 : ax_CB VV "NumberFunctions$Reader" 70 R_signAt_y R_signAt_c 2 (some .int) 1 := ⟨mt3 (List.mem_of_getElem? (i := 5) rfl), mt1 (List.mem_of_getElem? (i := 4) rfl), mt3 (List.mem_of_getElem? (i := 8) rfl), by decide +kernel⟩
theorem cb_R_57 : ax_CB VV "NumberFunctions$Reader" 57 R_wordEnd_y R_wordEnd_c 3 (some .int) 1 := ⟨mt3 (List.mem_of_getElem? (i := 9) rfl), mt1 (List.mem_of_getElem? (i := 4) rfl), mt3 (List.mem_of_getElem? (i := 12) rfl), by decide +kernel⟩
theorem cb_R_73 : ax_CB VV "NumberFunctions$Reader" 73 R_isBrace_y R_isBrace_c 1 (some .boolean) 1 := ⟨mt3 (List.mem_of_getElem? (i := 13) rfl), mt1 (List.mem_of_getElem? (i := 4) rfl), mt3 (List.mem_of_getElem? (i := 15) rfl), by decide +kernel⟩
theorem cb_R_60 : ax_CB VV "NumberFunctions$Reader" 60 R_take_y R_take_c 5 (some .int) 2 := ⟨mt3 (List.mem_of_getElem? (i := 16) rfl), mt1 (List.mem_of_getElem? (i := 4) rfl), mt3 (List.mem_of_getElem? (i := 19) rfl), by decide +kernel⟩
theorem cb_R_77 : ax_CB VV "NumberFunctions$Reader" 77 O_spelled_y O_spelled_c 7 (some (.object "NumberFunctions$Word")) 3 := ⟨mt3 (List.mem_of_getElem? (i := 20) rfl), mt1 (List.mem_of_getElem? (i := 20) rfl), mt3 (List.mem_of_getElem? (i := 22) rfl), by decide +kernel⟩
theorem cb_O_156 : ax_CB VV "NumberFunctions$Word" 156 JString_length_y JString_length_c 1 (some .int) 0 := ⟨mt3 (List.mem_of_getElem? (i := 25) rfl), mt1 (List.mem_of_getElem? (i := 21) rfl), mt3 (List.mem_of_getElem? (i := 28) rfl), by decide +kernel⟩
theorem cb_JString_335 : ax_CB VV "java/lang/String" 335 JString_coder_y JString_coder_c 1 (some .byte) 0 := ⟨mt3 (List.mem_of_getElem? (i := 29) rfl), mt1 (List.mem_of_getElem? (i := 21) rfl), mt3 (List.mem_of_getElem? (i := 32) rfl), by decide +kernel⟩
theorem cb_O_162 : ax_CB VV "NumberFunctions$Word" 162 O_isAt_y O_isAt_c 4 (some .boolean) 2 := ⟨mt3 (List.mem_of_getElem? (i := 35) rfl), mt1 (List.mem_of_getElem? (i := 20) rfl), mt3 (List.mem_of_getElem? (i := 39) rfl), by decide +kernel⟩
theorem cb_O_166 : ax_CB VV "NumberFunctions$Word" 166 JString_charAt_y JString_charAt_c 2 (some .char) 1 := ⟨mt3 (List.mem_of_getElem? (i := 40) rfl), mt1 (List.mem_of_getElem? (i := 21) rfl), mt3 (List.mem_of_getElem? (i := 43) rfl), by decide +kernel⟩
theorem cb_JString_492 : ax_CB VV "java/lang/String" 492 JString_isLatin1_y JString_isLatin1_c 1 (some .boolean) 0 := ⟨mt3 (List.mem_of_getElem? (i := 44) rfl), mt1 (List.mem_of_getElem? (i := 21) rfl), mt3 (List.mem_of_getElem? (i := 47) rfl), by decide +kernel⟩
theorem cb_JString_495 : ax_CB VV "java/lang/String" 495 JStringLatin1_charAt_y JStringLatin1_charAt_c 2 (some .char) 2 := ⟨mt3 (List.mem_of_getElem? (i := 48) rfl), mt1 (List.mem_of_getElem? (i := 22) rfl), mt3 (List.mem_of_getElem? (i := 50) rfl), by decide +kernel⟩
theorem cb_JStringLatin1_9 : ax_CB VV "java/lang/StringLatin1" 9 JString_checkIndex_y JString_checkIndex_c 2 none 2 := ⟨mt3 (List.mem_of_getElem? (i := 51) rfl), mt1 (List.mem_of_getElem? (i := 21) rfl), mt3 (List.mem_of_getElem? (i := 53) rfl), by decide +kernel⟩
theorem cb_JString_1059 : ax_CB VV "java/lang/String" 1059 JPreconditions_checkIndex_y JPreconditions_checkIndex_c 3 (some .int) 3 := ⟨mt3 (List.mem_of_getElem? (i := 56) rfl), mt1 (List.mem_of_getElem? (i := 23) rfl), mt3 (List.mem_of_getElem? (i := 58) rfl), by decide +kernel⟩
theorem cb_JString_498 : ax_CB VV "java/lang/String" 498 JStringUTF16_charAt_y JStringUTF16_charAt_c 2 (some .char) 2 := ⟨mt3 (List.mem_of_getElem? (i := 59) rfl), mt1 (List.mem_of_getElem? (i := 24) rfl), mt3 (List.mem_of_getElem? (i := 61) rfl), by decide +kernel⟩
theorem cb_JStringUTF16_67 : ax_CB VV "java/lang/StringUTF16" 67 JStringUTF16_checkIndex_y JStringUTF16_checkIndex_c 2 none 2 := ⟨mt3 (List.mem_of_getElem? (i := 62) rfl), mt1 (List.mem_of_getElem? (i := 24) rfl), mt3 (List.mem_of_getElem? (i := 64) rfl), by decide +kernel⟩
theorem cb_JStringUTF16_48 : ax_CB VV "java/lang/StringUTF16" 48 JStringUTF16_length_y JStringUTF16_length_c 1 (some .int) 1 := ⟨mt3 (List.mem_of_getElem? (i := 65) rfl), mt1 (List.mem_of_getElem? (i := 24) rfl), mt3 (List.mem_of_getElem? (i := 67) rfl), by decide +kernel⟩
theorem cb_JStringUTF16_414 : ax_CB VV "java/lang/StringUTF16" 414 JString_checkIndex_y JString_checkIndex_c 2 none 2 := ⟨mt3 (List.mem_of_getElem? (i := 68) rfl), mt1 (List.mem_of_getElem? (i := 21) rfl), mt3 (List.mem_of_getElem? (i := 53) rfl), by decide +kernel⟩
theorem cb_JStringUTF16_71 : ax_CB VV "java/lang/StringUTF16" 71 JStringUTF16_getChar_y JStringUTF16_getChar_c 2 (some .char) 2 := ⟨mt3 (List.mem_of_getElem? (i := 69) rfl), mt1 (List.mem_of_getElem? (i := 24) rfl), mt3 (List.mem_of_getElem? (i := 71) rfl), by decide +kernel⟩
theorem cb_R_81 : ax_CB VV "NumberFunctions$Reader" 81 R_isMisplaced_y R_isMisplaced_c 2 (some .boolean) 1 := ⟨mt3 (List.mem_of_getElem? (i := 78) rfl), mt1 (List.mem_of_getElem? (i := 4) rfl), mt3 (List.mem_of_getElem? (i := 81) rfl), by decide +kernel⟩
theorem cb_R_92 : ax_CB VV "NumberFunctions$Reader" 92 R_readNumeral_y R_readNumeral_c 10 (some .int) 2 := ⟨mt3 (List.mem_of_getElem? (i := 88) rfl), mt1 (List.mem_of_getElem? (i := 4) rfl), mt3 (List.mem_of_getElem? (i := 91) rfl), by decide +kernel⟩
theorem cb_R_121 : ax_CB VV "NumberFunctions$Reader" 121 R_digitsEnd_y R_digitsEnd_c 4 (some .int) 2 := ⟨mt3 (List.mem_of_getElem? (i := 92) rfl), mt1 (List.mem_of_getElem? (i := 4) rfl), mt3 (List.mem_of_getElem? (i := 95) rfl), by decide +kernel⟩
theorem cb_R_124 : ax_CB VV "NumberFunctions$Reader" 124 R_wholePart_y R_wholePart_c 5 (some .int) 2 := ⟨mt3 (List.mem_of_getElem? (i := 96) rfl), mt1 (List.mem_of_getElem? (i := 4) rfl), mt3 (List.mem_of_getElem? (i := 99) rfl), by decide +kernel⟩
theorem cb_R_131 : ax_CB VV "NumberFunctions$Reader" 131 JMath_min1_y JMath_min1_c 2 (some .int) 2 := ⟨mt3 (List.mem_of_getElem? (i := 100) rfl), mt1 (List.mem_of_getElem? (i := 11) rfl), mt2 (List.mem_of_getElem? (i := 140) rfl), by decide +kernel⟩
theorem cb_R_128 : ax_CB VV "NumberFunctions$Reader" 128 R_fractionPart_y R_fractionPart_c 6 (some .int) 2 := ⟨mt3 (List.mem_of_getElem? (i := 102) rfl), mt1 (List.mem_of_getElem? (i := 4) rfl), mt3 (List.mem_of_getElem? (i := 105) rfl), by decide +kernel⟩
theorem cb_R_98 : ax_CB VV "NumberFunctions$Reader" 98 R_put_y R_put_c 3 none 1 := ⟨mt3 (List.mem_of_getElem? (i := 111) rfl), mt1 (List.mem_of_getElem? (i := 4) rfl), mt3 (List.mem_of_getElem? (i := 114) rfl), by decide +kernel⟩
theorem cb_R_111 : ax_CB VV "NumberFunctions$Reader" 111 R_close_y R_close_c 2 none 0 := ⟨mt3 (List.mem_of_getElem? (i := 117) rfl), mt1 (List.mem_of_getElem? (i := 4) rfl), mt3 (List.mem_of_getElem? (i := 120) rfl), by decide +kernel⟩
theorem cb_R_117 : ax_CB VV "NumberFunctions$Reader" 117 R_joinChoice_y R_joinChoice_c 4 none 1 := ⟨mt3 (List.mem_of_getElem? (i := 121) rfl), mt1 (List.mem_of_getElem? (i := 4) rfl), mt3 (List.mem_of_getElem? (i := 124) rfl), by decide +kernel⟩
theorem cb_R_64 : ax_CB VV "NumberFunctions$Reader" 64 U_set_y U_set_c 3 none 2 := ⟨mt3 (List.mem_of_getElem? (i := 125) rfl), mt1 (List.mem_of_getElem? (i := 3) rfl), mt2 (List.mem_of_getElem? (i := 85) rfl), by decide +kernel⟩
theorem cb_N_176 : ax_CB VV "NumberFunctions" 176 G_init_y G_init_c 6 none 5 := ⟨mt3 (List.mem_of_getElem? (i := 128) rfl), mt1 (List.mem_of_getElem? (i := 25) rfl), mt3 (List.mem_of_getElem? (i := 130) rfl), by decide +kernel⟩
theorem cb_G_3 : ax_CB VV "NumberFunctions$Program" 3 F_init_y F_init_c 4 none 3 := ⟨mt3 (List.mem_of_getElem? (i := 131) rfl), mt1 (List.mem_of_getElem? (i := 15) rfl), mt2 (List.mem_of_getElem? (i := 166) rfl), by decide +kernel⟩
theorem cb_G_39 : ax_CB VV "NumberFunctions$Program" 39 JArrays_copyOf1_y JArrays_copyOf1_c 3 (some (.array .int)) 2 := ⟨mt3 (List.mem_of_getElem? (i := 134) rfl), mt1 (List.mem_of_getElem? (i := 13) rfl), mt2 (List.mem_of_getElem? (i := 130) rfl), by decide +kernel⟩
theorem cb_L_24 : ax_CB VV "NumberFunctionsLaw" 24 N_input_y N_input_c 4 (some .int) 2 := ⟨mt3 (List.mem_of_getElem? (i := 160) rfl), mt1 (List.mem_of_getElem? (i := 1) rfl), mt3 (List.mem_of_getElem? (i := 163) rfl), by decide +kernel⟩
theorem cb_L_28 : ax_CB VV "NumberFunctionsLaw" 28 N_call_y N_call_c 4 (some .int) 1 := ⟨mt3 (List.mem_of_getElem? (i := 169) rfl), mt1 (List.mem_of_getElem? (i := 1) rfl), mt3 (List.mem_of_getElem? (i := 172) rfl), by decide +kernel⟩
theorem cb_N_122 : ax_CB VV "NumberFunctions" 122 JIndexOutOfBoundsException_init_y JIndexOutOfBoundsException_init_c 2 none 1 := ⟨mt3 (List.mem_of_getElem? (i := 183) rfl), mt1 (List.mem_of_getElem? (i := 26) rfl), mt3 (List.mem_of_getElem? (i := 185) rfl), by decide +kernel⟩
theorem cb_JIndexOutOfBoundsException_7 : ax_CB VV "java/lang/IndexOutOfBoundsException" 7 JRuntimeException_init_y JRuntimeException_init_c 2 none 1 := ⟨mt3 (List.mem_of_getElem? (i := 186) rfl), mt1 (List.mem_of_getElem? (i := 9) rfl), mt2 (List.mem_of_getElem? (i := 16) rfl), by decide +kernel⟩
theorem cb_F_20 : ax_CB VV "NumberFunctions$Function" 20 B_within_y B_within_c 6 (some .long) 3 := ⟨mt3 (List.mem_of_getElem? (i := 202) rfl), mt1 (List.mem_of_getElem? (i := 27) rfl), mt3 (List.mem_of_getElem? (i := 204) rfl), by decide +kernel⟩
theorem cb_B_9 : ax_CB VV "NumberFunctions$Numbers" 9 JMath_min2_y JMath_min2_c 4 (some .long) 2 := ⟨mt3 (List.mem_of_getElem? (i := 205) rfl), mt1 (List.mem_of_getElem? (i := 11) rfl), mt3 (List.mem_of_getElem? (i := 207) rfl), by decide +kernel⟩
theorem cb_B_15 : ax_CB VV "NumberFunctions$Numbers" 15 JMath_max2_y JMath_max2_c 4 (some .long) 2 := ⟨mt3 (List.mem_of_getElem? (i := 208) rfl), mt1 (List.mem_of_getElem? (i := 11) rfl), mt3 (List.mem_of_getElem? (i := 210) rfl), by decide +kernel⟩
theorem cb_P_20 : ax_CB VV "NumberFunctions$Powers" 20 B_times_y B_times_c 2 (some .int) 2 := ⟨mt3 (List.mem_of_getElem? (i := 212) rfl), mt1 (List.mem_of_getElem? (i := 27) rfl), mt3 (List.mem_of_getElem? (i := 214) rfl), by decide +kernel⟩
theorem cb_B_24 : ax_CB VV "NumberFunctions$Numbers" 24 B_number_y B_number_c 2 (some .int) 1 := ⟨mt3 (List.mem_of_getElem? (i := 215) rfl), mt1 (List.mem_of_getElem? (i := 27) rfl), mt3 (List.mem_of_getElem? (i := 217) rfl), by decide +kernel⟩
theorem cb_P_29 : ax_CB VV "NumberFunctions$Powers" 29 B_number_y B_number_c 2 (some .int) 1 := ⟨mt3 (List.mem_of_getElem? (i := 222) rfl), mt1 (List.mem_of_getElem? (i := 27) rfl), mt3 (List.mem_of_getElem? (i := 217) rfl), by decide +kernel⟩
theorem cb_G_66 : ax_CB VV "NumberFunctions$Program" 66 K_give_y K_give_c 6 (some .int) 3 := ⟨mt3 (List.mem_of_getElem? (i := 229) rfl), mt1 (List.mem_of_getElem? (i := 5) rfl), mt3 (List.mem_of_getElem? (i := 232) rfl), by decide +kernel⟩
theorem cb_K_74 : ax_CB VV "NumberFunctions$Machine" 74 B_number_y B_number_c 2 (some .int) 1 := ⟨mt3 (List.mem_of_getElem? (i := 233) rfl), mt1 (List.mem_of_getElem? (i := 27) rfl), mt3 (List.mem_of_getElem? (i := 217) rfl), by decide +kernel⟩
theorem cb_G_70 : ax_CB VV "NumberFunctions$Program" 70 K_perform_y K_perform_c 3 (some .int) 2 := ⟨mt3 (List.mem_of_getElem? (i := 234) rfl), mt1 (List.mem_of_getElem? (i := 5) rfl), mt3 (List.mem_of_getElem? (i := 237) rfl), by decide +kernel⟩
theorem cb_K_31 : ax_CB VV "NumberFunctions$Machine" 31 K_constant_y K_constant_c 3 (some .int) 2 := ⟨mt3 (List.mem_of_getElem? (i := 238) rfl), mt1 (List.mem_of_getElem? (i := 5) rfl), mt4 (List.mem_of_getElem? (i := 1) rfl), by decide +kernel⟩
theorem cb_K_80 : ax_CB VV "NumberFunctions$Machine" 80 K_give_y K_give_c 6 (some .int) 3 := ⟨mt4 (List.mem_of_getElem? (i := 3) rfl), mt1 (List.mem_of_getElem? (i := 5) rfl), mt3 (List.mem_of_getElem? (i := 232) rfl), by decide +kernel⟩
theorem cb_K_90 : ax_CB VV "NumberFunctions$Machine" 90 K_giveTruth_y K_giveTruth_c 3 (some .int) 2 := ⟨mt4 (List.mem_of_getElem? (i := 6) rfl), mt1 (List.mem_of_getElem? (i := 5) rfl), mt4 (List.mem_of_getElem? (i := 9) rfl), by decide +kernel⟩
theorem cb_K_35 : ax_CB VV "NumberFunctions$Machine" 35 K_oneNumber_y K_oneNumber_c 3 (some .int) 1 := ⟨mt4 (List.mem_of_getElem? (i := 10) rfl), mt1 (List.mem_of_getElem? (i := 5) rfl), mt4 (List.mem_of_getElem? (i := 13) rfl), by decide +kernel⟩
theorem cb_K_97 : ax_CB VV "NumberFunctions$Machine" 97 K_ofOneNumber_y K_ofOneNumber_c 2 (some .int) 2 := ⟨mt4 (List.mem_of_getElem? (i := 16) rfl), mt1 (List.mem_of_getElem? (i := 5) rfl), mt4 (List.mem_of_getElem? (i := 18) rfl), by decide +kernel⟩
theorem cb_K_108 : ax_CB VV "NumberFunctions$Machine" 108 JMath_abs_y JMath_abs_c 1 (some .int) 1 := ⟨mt4 (List.mem_of_getElem? (i := 27) rfl), mt1 (List.mem_of_getElem? (i := 11) rfl), mt4 (List.mem_of_getElem? (i := 29) rfl), by decide +kernel⟩
theorem cb_K_114 : ax_CB VV "NumberFunctions$Machine" 114 B_floor_y B_floor_c 1 (some .int) 1 := ⟨mt4 (List.mem_of_getElem? (i := 30) rfl), mt1 (List.mem_of_getElem? (i := 27) rfl), mt4 (List.mem_of_getElem? (i := 32) rfl), by decide +kernel⟩
theorem cb_K_118 : ax_CB VV "NumberFunctions$Machine" 118 B_truncate_y B_truncate_c 1 (some .int) 1 := ⟨mt4 (List.mem_of_getElem? (i := 35) rfl), mt1 (List.mem_of_getElem? (i := 27) rfl), mt4 (List.mem_of_getElem? (i := 37) rfl), by decide +kernel⟩
theorem cb_B_36 : ax_CB VV "NumberFunctions$Numbers" 36 B_floor_y B_floor_c 1 (some .int) 1 := ⟨mt4 (List.mem_of_getElem? (i := 38) rfl), mt1 (List.mem_of_getElem? (i := 27) rfl), mt4 (List.mem_of_getElem? (i := 32) rfl), by decide +kernel⟩
theorem cb_K_121 : ax_CB VV "NumberFunctions$Machine" 121 B_root_y B_root_c 6 (some .int) 1 := ⟨mt4 (List.mem_of_getElem? (i := 39) rfl), mt1 (List.mem_of_getElem? (i := 27) rfl), mt4 (List.mem_of_getElem? (i := 41) rfl), by decide +kernel⟩
theorem cb_K_39 : ax_CB VV "NumberFunctions$Machine" 39 K_twoNumbers_y K_twoNumbers_c 4 (some .int) 1 := ⟨mt4 (List.mem_of_getElem? (i := 42) rfl), mt1 (List.mem_of_getElem? (i := 5) rfl), mt4 (List.mem_of_getElem? (i := 45) rfl), by decide +kernel⟩
theorem cb_K_127 : ax_CB VV "NumberFunctions$Machine" 127 K_ofTwoNumbers_y K_ofTwoNumbers_c 3 (some .long) 3 := ⟨mt4 (List.mem_of_getElem? (i := 48) rfl), mt1 (List.mem_of_getElem? (i := 5) rfl), mt4 (List.mem_of_getElem? (i := 50) rfl), by decide +kernel⟩
theorem cb_K_131 : ax_CB VV "NumberFunctions$Machine" 131 B_times_y B_times_c 2 (some .int) 2 := ⟨mt4 (List.mem_of_getElem? (i := 51) rfl), mt1 (List.mem_of_getElem? (i := 27) rfl), mt3 (List.mem_of_getElem? (i := 214) rfl), by decide +kernel⟩
theorem cb_K_135 : ax_CB VV "NumberFunctions$Machine" 135 B_over_y B_over_c 2 (some .int) 2 := ⟨mt4 (List.mem_of_getElem? (i := 52) rfl), mt1 (List.mem_of_getElem? (i := 27) rfl), mt4 (List.mem_of_getElem? (i := 54) rfl), by decide +kernel⟩
theorem cb_B_32 : ax_CB VV "NumberFunctions$Numbers" 32 JMath_floorDiv_y JMath_floorDiv_c 6 (some .long) 2 := ⟨mt4 (List.mem_of_getElem? (i := 56) rfl), mt1 (List.mem_of_getElem? (i := 11) rfl), mt4 (List.mem_of_getElem? (i := 58) rfl), by decide +kernel⟩
theorem cb_K_42 : ax_CB VV "NumberFunctions$Machine" 42 K_twoWholes_y K_twoWholes_c 5 (some .int) 1 := ⟨mt4 (List.mem_of_getElem? (i := 59) rfl), mt1 (List.mem_of_getElem? (i := 5) rfl), mt4 (List.mem_of_getElem? (i := 62) rfl), by decide +kernel⟩
theorem cb_K_138 : ax_CB VV "NumberFunctions$Machine" 138 K_faultOfWholes_y K_faultOfWholes_c 4 (some .int) 1 := ⟨mt4 (List.mem_of_getElem? (i := 63) rfl), mt1 (List.mem_of_getElem? (i := 5) rfl), mt4 (List.mem_of_getElem? (i := 66) rfl), by decide +kernel⟩
theorem cb_K_145 : ax_CB VV "NumberFunctions$Machine" 145 K_shifted_y K_shifted_c 2 (some .int) 2 := ⟨mt4 (List.mem_of_getElem? (i := 70) rfl), mt1 (List.mem_of_getElem? (i := 5) rfl), mt4 (List.mem_of_getElem? (i := 72) rfl), by decide +kernel⟩
theorem cb_K_148 : ax_CB VV "NumberFunctions$Machine" 148 K_giveWhole_y K_giveWhole_c 3 (some .int) 2 := ⟨mt4 (List.mem_of_getElem? (i := 73) rfl), mt1 (List.mem_of_getElem? (i := 5) rfl), mt4 (List.mem_of_getElem? (i := 76) rfl), by decide +kernel⟩
theorem cb_K_45 : ax_CB VV "NumberFunctions$Machine" 45 K_comparison_y K_comparison_c 5 (some .int) 1 := ⟨mt4 (List.mem_of_getElem? (i := 80) rfl), mt1 (List.mem_of_getElem? (i := 5) rfl), mt4 (List.mem_of_getElem? (i := 83) rfl), by decide +kernel⟩
theorem cb_K_162 : ax_CB VV "NumberFunctions$Machine" 162 K_compared_y K_compared_c 3 (some .boolean) 3 := ⟨mt4 (List.mem_of_getElem? (i := 88) rfl), mt1 (List.mem_of_getElem? (i := 5) rfl), mt4 (List.mem_of_getElem? (i := 90) rfl), by decide +kernel⟩
theorem cb_K_52 : ax_CB VV "NumberFunctions$Machine" 52 K_negation_y K_negation_c 3 (some .int) 0 := ⟨mt4 (List.mem_of_getElem? (i := 93) rfl), mt1 (List.mem_of_getElem? (i := 5) rfl), mt4 (List.mem_of_getElem? (i := 96) rfl), by decide +kernel⟩
theorem cb_K_56 : ax_CB VV "NumberFunctions$Machine" 56 K_logic_y K_logic_c 5 (some .int) 1 := ⟨mt4 (List.mem_of_getElem? (i := 97) rfl), mt1 (List.mem_of_getElem? (i := 5) rfl), mt4 (List.mem_of_getElem? (i := 100) rfl), by decide +kernel⟩
theorem cb_K_166 : ax_CB VV "NumberFunctions$Machine" 166 K_combined_y K_combined_c 3 (some .int) 3 := ⟨mt4 (List.mem_of_getElem? (i := 101) rfl), mt1 (List.mem_of_getElem? (i := 5) rfl), mt4 (List.mem_of_getElem? (i := 103) rfl), by decide +kernel⟩
theorem cb_K_59 : ax_CB VV "NumberFunctions$Machine" 59 K_move_y K_move_c 2 (some .int) 1 := ⟨mt4 (List.mem_of_getElem? (i := 104) rfl), mt1 (List.mem_of_getElem? (i := 5) rfl), mt4 (List.mem_of_getElem? (i := 107) rfl), by decide +kernel⟩
theorem cb_K_170 : ax_CB VV "NumberFunctions$Machine" 170 K_reverse_y K_reverse_c 7 none 2 := ⟨mt4 (List.mem_of_getElem? (i := 108) rfl), mt1 (List.mem_of_getElem? (i := 5) rfl), mt4 (List.mem_of_getElem? (i := 111) rfl), by decide +kernel⟩
theorem cb_K_65 : ax_CB VV "NumberFunctions$Machine" 65 K_roll_y K_roll_c 5 (some .int) 0 := ⟨mt4 (List.mem_of_getElem? (i := 114) rfl), mt1 (List.mem_of_getElem? (i := 5) rfl), mt4 (List.mem_of_getElem? (i := 117) rfl), by decide +kernel⟩
theorem cb_K_186 : ax_CB VV "NumberFunctions$Machine" 186 JMath_floorMod1_y JMath_floorMod1_c 3 (some .int) 2 := ⟨mt4 (List.mem_of_getElem? (i := 118) rfl), mt1 (List.mem_of_getElem? (i := 11) rfl), mt4 (List.mem_of_getElem? (i := 120) rfl), by decide +kernel⟩
theorem cb_K_189 : ax_CB VV "NumberFunctions$Machine" 189 K_turn_y K_turn_c 3 none 2 := ⟨mt4 (List.mem_of_getElem? (i := 121) rfl), mt1 (List.mem_of_getElem? (i := 5) rfl), mt4 (List.mem_of_getElem? (i := 124) rfl), by decide +kernel⟩
theorem cb_K_68 : ax_CB VV "NumberFunctions$Machine" 68 K_reach_y K_reach_c 6 (some .int) 1 := ⟨mt4 (List.mem_of_getElem? (i := 125) rfl), mt1 (List.mem_of_getElem? (i := 5) rfl), mt4 (List.mem_of_getElem? (i := 128) rfl), by decide +kernel⟩
theorem cb_K_177 : ax_CB VV "NumberFunctions$Machine" 177 K_copyUpper_y K_copyUpper_c 3 (some .int) 2 := ⟨mt4 (List.mem_of_getElem? (i := 131) rfl), mt1 (List.mem_of_getElem? (i := 5) rfl), mt4 (List.mem_of_getElem? (i := 134) rfl), by decide +kernel⟩
theorem cb_K_71 : ax_CB VV "NumberFunctions$Machine" 71 K_choice_y K_choice_c 1 (some .int) 0 := ⟨mt4 (List.mem_of_getElem? (i := 136) rfl), mt1 (List.mem_of_getElem? (i := 5) rfl), mt4 (List.mem_of_getElem? (i := 139) rfl), by decide +kernel⟩
theorem cb_G_74 : ax_CB VV "NumberFunctions$Program" 74 U_set_y U_set_c 3 none 2 := ⟨mt4 (List.mem_of_getElem? (i := 140) rfl), mt1 (List.mem_of_getElem? (i := 3) rfl), mt2 (List.mem_of_getElem? (i := 85) rfl), by decide +kernel⟩
theorem cb_G_87 : ax_CB VV "NumberFunctions$Program" 87 G_takeResults_y G_takeResults_c 5 none 2 := ⟨mt4 (List.mem_of_getElem? (i := 141) rfl), mt1 (List.mem_of_getElem? (i := 25) rfl), mt4 (List.mem_of_getElem? (i := 144) rfl), by decide +kernel⟩
theorem cb_G_94 : ax_CB VV "NumberFunctions$Program" 94 K_faultAtEnd_y K_faultAtEnd_c 3 (some .int) 1 := ⟨mt4 (List.mem_of_getElem? (i := 145) rfl), mt1 (List.mem_of_getElem? (i := 5) rfl), mt4 (List.mem_of_getElem? (i := 148) rfl), by decide +kernel⟩
theorem cb_S_33 : ax_CB VV "NumberFunctions$Samples" 33 S_locate_y S_locate_c 8 none 2 := ⟨mt4 (List.mem_of_getElem? (i := 152) rfl), mt1 (List.mem_of_getElem? (i := 16) rfl), mt4 (List.mem_of_getElem? (i := 155) rfl), by decide +kernel⟩
theorem cb_S_49 : ax_CB VV "NumberFunctions$Samples" 49 B_laid_y B_laid_c 10 (some .int) 5 := ⟨mt4 (List.mem_of_getElem? (i := 159) rfl), mt1 (List.mem_of_getElem? (i := 27) rfl), mt4 (List.mem_of_getElem? (i := 161) rfl), by decide +kernel⟩
theorem cb_S_59 : ax_CB VV "NumberFunctions$Samples" 59 B_within_y B_within_c 6 (some .long) 3 := ⟨mt4 (List.mem_of_getElem? (i := 163) rfl), mt1 (List.mem_of_getElem? (i := 27) rfl), mt3 (List.mem_of_getElem? (i := 204) rfl), by decide +kernel⟩
theorem cb_S_42 : ax_CB VV "NumberFunctions$Samples" 42 S_between_y S_between_c 9 (some .long) 1 := ⟨mt4 (List.mem_of_getElem? (i := 165) rfl), mt1 (List.mem_of_getElem? (i := 16) rfl), mt4 (List.mem_of_getElem? (i := 168) rfl), by decide +kernel⟩
theorem cb_S_64 : ax_CB VV "NumberFunctions$Samples" 64 S_placeOf_y S_placeOf_c 6 (some .int) 1 := ⟨mt4 (List.mem_of_getElem? (i := 169) rfl), mt1 (List.mem_of_getElem? (i := 16) rfl), mt4 (List.mem_of_getElem? (i := 172) rfl), by decide +kernel⟩
theorem cb_S_71 : ax_CB VV "NumberFunctions$Samples" 71 JMath_min1_y JMath_min1_c 2 (some .int) 2 := ⟨mt4 (List.mem_of_getElem? (i := 173) rfl), mt1 (List.mem_of_getElem? (i := 11) rfl), mt2 (List.mem_of_getElem? (i := 140) rfl), by decide +kernel⟩
theorem cb_S_68 : ax_CB VV "NumberFunctions$Samples" 68 S_sample_y S_sample_c 6 (some .long) 1 := ⟨mt4 (List.mem_of_getElem? (i := 174) rfl), mt1 (List.mem_of_getElem? (i := 16) rfl), mt4 (List.mem_of_getElem? (i := 177) rfl), by decide +kernel⟩
theorem cb_S_78 : ax_CB VV "NumberFunctions$Samples" 78 S_bitAt_y S_bitAt_c 2 (some .int) 1 := ⟨mt4 (List.mem_of_getElem? (i := 179) rfl), mt1 (List.mem_of_getElem? (i := 16) rfl), mt4 (List.mem_of_getElem? (i := 182) rfl), by decide +kernel⟩
theorem cb_Z_23 : ax_CB VV "NumberFunctions$Stitched" 23 B_laid_y B_laid_c 10 (some .int) 5 := ⟨mt4 (List.mem_of_getElem? (i := 189) rfl), mt1 (List.mem_of_getElem? (i := 27) rfl), mt4 (List.mem_of_getElem? (i := 161) rfl), by decide +kernel⟩
theorem cb_L_33 : ax_CB VV "NumberFunctionsLaw" 33 N_output_y N_output_c 2 (some .int) 1 := ⟨mt4 (List.mem_of_getElem? (i := 194) rfl), mt1 (List.mem_of_getElem? (i := 1) rfl), mt4 (List.mem_of_getElem? (i := 197) rfl), by decide +kernel⟩
theorem cb_L_39 : ax_CB VV "NumberFunctionsLaw" 39 M_init_y M_init_c 1 none 0 := ⟨mt4 (List.mem_of_getElem? (i := 201) rfl), mt1 (List.mem_of_getElem? (i := 6) rfl), mt4 (List.mem_of_getElem? (i := 203) rfl), by decide +kernel⟩
theorem cb_L_51 : ax_CB VV "NumberFunctionsLaw" 51 M_thrown_y M_thrown_c 1 (some .int) 0 := ⟨mt5 (List.mem_of_getElem? (i := 63) rfl), mt1 (List.mem_of_getElem? (i := 6) rfl), mt5 (List.mem_of_getElem? (i := 66) rfl), by decide +kernel⟩
theorem cb_L_44 : ax_CB VV "NumberFunctionsLaw" 44 M_feed_y M_feed_c 8 (some .int) 5 := ⟨mt5 (List.mem_of_getElem? (i := 67) rfl), mt1 (List.mem_of_getElem? (i := 6) rfl), mt5 (List.mem_of_getElem? (i := 70) rfl), by decide +kernel⟩
theorem cb_L_50 : ax_CB VV "NumberFunctionsLaw" 50 M_cut_y M_cut_c 3 (some .int) 1 := ⟨mt5 (List.mem_of_getElem? (i := 71) rfl), mt1 (List.mem_of_getElem? (i := 6) rfl), mt5 (List.mem_of_getElem? (i := 74) rfl), by decide +kernel⟩
theorem cb_M_84 : ax_CB VV "NumberFunctionsModel" 84 M_refused_y M_refused_c 2 (some .boolean) 1 := ⟨mt5 (List.mem_of_getElem? (i := 75) rfl), mt1 (List.mem_of_getElem? (i := 6) rfl), mt5 (List.mem_of_getElem? (i := 78) rfl), by decide +kernel⟩
theorem cb_L_57 : ax_CB VV "NumberFunctionsLaw" 57 M_tell_y M_tell_c 2 (some .int) 1 := ⟨mt5 (List.mem_of_getElem? (i := 79) rfl), mt1 (List.mem_of_getElem? (i := 6) rfl), mt5 (List.mem_of_getElem? (i := 82) rfl), by decide +kernel⟩
theorem cb_M_92 : ax_CB VV "NumberFunctionsModel" 92 M_isIn_y M_isIn_c 6 (some .boolean) 3 := ⟨mt5 (List.mem_of_getElem? (i := 85) rfl), mt1 (List.mem_of_getElem? (i := 6) rfl), mt5 (List.mem_of_getElem? (i := 87) rfl), by decide +kernel⟩
theorem cb_L_61 : ax_CB VV "NumberFunctionsLaw" 61 M_drop_y M_drop_c 2 (some .int) 0 := ⟨mt5 (List.mem_of_getElem? (i := 88) rfl), mt1 (List.mem_of_getElem? (i := 6) rfl), mt5 (List.mem_of_getElem? (i := 91) rfl), by decide +kernel⟩
theorem cb_L_69 : ax_CB VV "NumberFunctionsLaw" 69 M_clear_y M_clear_c 2 (some .int) 0 := ⟨mt5 (List.mem_of_getElem? (i := 92) rfl), mt1 (List.mem_of_getElem? (i := 6) rfl), mt5 (List.mem_of_getElem? (i := 95) rfl), by decide +kernel⟩
theorem cb_L_73 : ax_CB VV "NumberFunctionsLaw" 73 M_input_y M_input_c 4 (some .int) 2 := ⟨mt5 (List.mem_of_getElem? (i := 96) rfl), mt1 (List.mem_of_getElem? (i := 6) rfl), mt5 (List.mem_of_getElem? (i := 99) rfl), by decide +kernel⟩
theorem cb_L_79 : ax_CB VV "NumberFunctionsLaw" 79 M_output_y M_output_c 2 (some .int) 1 := ⟨mt5 (List.mem_of_getElem? (i := 101) rfl), mt1 (List.mem_of_getElem? (i := 6) rfl), mt5 (List.mem_of_getElem? (i := 104) rfl), by decide +kernel⟩
theorem cb_L_83 : ax_CB VV "NumberFunctionsLaw" 83 M_fault_y M_fault_c 2 (some .int) 1 := ⟨mt5 (List.mem_of_getElem? (i := 105) rfl), mt1 (List.mem_of_getElem? (i := 6) rfl), mt5 (List.mem_of_getElem? (i := 108) rfl), by decide +kernel⟩
theorem cb_L_65 : ax_CB VV "NumberFunctionsLaw" 65 M_make_y M_make_c 6 (some .int) 3 := ⟨mt5 (List.mem_of_getElem? (i := 109) rfl), mt1 (List.mem_of_getElem? (i := 6) rfl), mt5 (List.mem_of_getElem? (i := 112) rfl), by decide +kernel⟩
theorem cb_M_149 : ax_CB VV "NumberFunctionsModel" 149 M_isKind_y M_isKind_c 5 (some .boolean) 3 := ⟨mt5 (List.mem_of_getElem? (i := 113) rfl), mt1 (List.mem_of_getElem? (i := 6) rfl), mt5 (List.mem_of_getElem? (i := 115) rfl), by decide +kernel⟩
theorem cb_M_153 : ax_CB VV "NumberFunctionsModel" 153 M_tellFault_y M_tellFault_c 3 none 2 := ⟨mt5 (List.mem_of_getElem? (i := 117) rfl), mt1 (List.mem_of_getElem? (i := 6) rfl), mt5 (List.mem_of_getElem? (i := 120) rfl), by decide +kernel⟩
theorem cb_M_157 : ax_CB VV "NumberFunctionsModel" 157 M_isTold_y M_isTold_c 4 (some .boolean) 3 := ⟨mt5 (List.mem_of_getElem? (i := 121) rfl), mt1 (List.mem_of_getElem? (i := 6) rfl), mt5 (List.mem_of_getElem? (i := 124) rfl), by decide +kernel⟩
theorem cb_M_134 : ax_CB VV "NumberFunctionsModel" 134 M_isSamples_y M_isSamples_c 6 (some .boolean) 2 := ⟨mt5 (List.mem_of_getElem? (i := 125) rfl), mt1 (List.mem_of_getElem? (i := 6) rfl), mt5 (List.mem_of_getElem? (i := 128) rfl), by decide +kernel⟩
theorem cb_M_125 : ax_CB VV "NumberFunctionsModel" 125 M_isPair_y M_isPair_c 2 (some .boolean) 1 := ⟨mt5 (List.mem_of_getElem? (i := 129) rfl), mt1 (List.mem_of_getElem? (i := 6) rfl), mt5 (List.mem_of_getElem? (i := 132) rfl), by decide +kernel⟩
theorem cb_M_138 : ax_CB VV "NumberFunctionsModel" 138 M_isPowers_y M_isPowers_c 2 (some .boolean) 1 := ⟨mt5 (List.mem_of_getElem? (i := 134) rfl), mt1 (List.mem_of_getElem? (i := 6) rfl), mt5 (List.mem_of_getElem? (i := 137) rfl), by decide +kernel⟩
theorem cb_M_141 : ax_CB VV "NumberFunctionsModel" 141 M_isStitched_y M_isStitched_c 6 (some .boolean) 1 := ⟨mt5 (List.mem_of_getElem? (i := 139) rfl), mt1 (List.mem_of_getElem? (i := 6) rfl), mt5 (List.mem_of_getElem? (i := 142) rfl), by decide +kernel⟩
theorem cb_M_144 : ax_CB VV "NumberFunctionsModel" 144 M_arePairs_y M_arePairs_c 4 (some .boolean) 1 := ⟨mt5 (List.mem_of_getElem? (i := 144) rfl), mt1 (List.mem_of_getElem? (i := 6) rfl), mt5 (List.mem_of_getElem? (i := 147) rfl), by decide +kernel⟩
theorem cb_M_160 : ax_CB VV "NumberFunctionsModel" 160 M_sampleBytes_y M_sampleBytes_c 6 (some .int) 2 := ⟨mt5 (List.mem_of_getElem? (i := 148) rfl), mt1 (List.mem_of_getElem? (i := 6) rfl), mt5 (List.mem_of_getElem? (i := 151) rfl), by decide +kernel⟩
theorem cb_M_164 : ax_CB VV "NumberFunctionsModel" 164 M_readWords_y M_readWords_c 13 none 1 := ⟨mt5 (List.mem_of_getElem? (i := 153) rfl), mt1 (List.mem_of_getElem? (i := 6) rfl), mt5 (List.mem_of_getElem? (i := 156) rfl), by decide +kernel⟩
theorem cb_M_177 : ax_CB VV "NumberFunctionsModel" 177 M_signAt_y M_signAt_c 3 (some .int) 2 := ⟨mt5 (List.mem_of_getElem? (i := 157) rfl), mt1 (List.mem_of_getElem? (i := 6) rfl), mt5 (List.mem_of_getElem? (i := 160) rfl), by decide +kernel⟩
theorem cb_M_180 : ax_CB VV "NumberFunctionsModel" 180 M_isBrace_y M_isBrace_c 1 (some .boolean) 1 := ⟨mt5 (List.mem_of_getElem? (i := 161) rfl), mt1 (List.mem_of_getElem? (i := 6) rfl), mt5 (List.mem_of_getElem? (i := 163) rfl), by decide +kernel⟩
theorem cb_M_183 : ax_CB VV "NumberFunctionsModel" 183 M_show_y M_show_c 3 none 2 := ⟨mt5 (List.mem_of_getElem? (i := 164) rfl), mt1 (List.mem_of_getElem? (i := 6) rfl), mt5 (List.mem_of_getElem? (i := 167) rfl), by decide +kernel⟩
theorem cb_M_188 : ax_CB VV "NumberFunctionsModel" 188 M_isWord_y M_isWord_c 6 (some .boolean) 3 := ⟨mt5 (List.mem_of_getElem? (i := 169) rfl), mt1 (List.mem_of_getElem? (i := 6) rfl), mt5 (List.mem_of_getElem? (i := 172) rfl), by decide +kernel⟩
theorem cb_M_198 : ax_CB VV "NumberFunctionsModel" 198 JString_length_y JString_length_c 1 (some .int) 0 := ⟨mt5 (List.mem_of_getElem? (i := 173) rfl), mt1 (List.mem_of_getElem? (i := 21) rfl), mt3 (List.mem_of_getElem? (i := 28) rfl), by decide +kernel⟩
theorem cb_M_204 : ax_CB VV "NumberFunctionsModel" 204 JString_charAt_y JString_charAt_c 2 (some .char) 1 := ⟨mt5 (List.mem_of_getElem? (i := 174) rfl), mt1 (List.mem_of_getElem? (i := 21) rfl), mt3 (List.mem_of_getElem? (i := 43) rfl), by decide +kernel⟩
theorem cb_M_194 : ax_CB VV "NumberFunctionsModel" 194 M_checkWord_y M_checkWord_c 4 none 3 := ⟨mt5 (List.mem_of_getElem? (i := 176) rfl), mt1 (List.mem_of_getElem? (i := 6) rfl), mt5 (List.mem_of_getElem? (i := 179) rfl), by decide +kernel⟩
theorem cb_M_219 : ax_CB VV "NumberFunctionsModel" 219 M_isNumber_y M_isNumber_c 7 (some .boolean) 2 := ⟨mt5 (List.mem_of_getElem? (i := 180) rfl), mt1 (List.mem_of_getElem? (i := 6) rfl), mt5 (List.mem_of_getElem? (i := 183) rfl), by decide +kernel⟩
theorem cb_M_208 : ax_CB VV "NumberFunctionsModel" 208 M_isDigit_y M_isDigit_c 1 (some .boolean) 1 := ⟨mt5 (List.mem_of_getElem? (i := 184) rfl), mt1 (List.mem_of_getElem? (i := 6) rfl), mt5 (List.mem_of_getElem? (i := 186) rfl), by decide +kernel⟩
theorem cb_M_222 : ax_CB VV "NumberFunctionsModel" 222 M_partOf_y M_partOf_c 14 (some .long) 3 := ⟨mt5 (List.mem_of_getElem? (i := 187) rfl), mt1 (List.mem_of_getElem? (i := 6) rfl), mt5 (List.mem_of_getElem? (i := 190) rfl), by decide +kernel⟩
theorem cb_M_228 : ax_CB VV "NumberFunctionsModel" 228 M_nameOf_y M_nameOf_c 4 (some .int) 2 := ⟨mt5 (List.mem_of_getElem? (i := 197) rfl), mt1 (List.mem_of_getElem? (i := 6) rfl), mt5 (List.mem_of_getElem? (i := 200) rfl), by decide +kernel⟩
theorem cb_M_299 : ax_CB VV "NumberFunctionsModel" 299 M_name_y M_name_c 1 (some (.object "java/lang/String")) 1 := ⟨mt5 (List.mem_of_getElem? (i := 201) rfl), mt1 (List.mem_of_getElem? (i := 6) rfl), mt5 (List.mem_of_getElem? (i := 203) rfl), by decide +kernel⟩
theorem cb_L_76 : ax_CB VV "NumberFunctionsLaw" 76 M_call_y M_call_c 6 (some .int) 1 := ⟨mt5 (List.mem_of_getElem? (i := 238) rfl), mt1 (List.mem_of_getElem? (i := 6) rfl), mt6 (List.mem_of_getElem? (i := 1) rfl), by decide +kernel⟩
theorem cb_M_303 : ax_CB VV "NumberFunctionsModel" 303 M_stitched_y M_stitched_c 13 (some .long) 2 := ⟨mt6 (List.mem_of_getElem? (i := 2) rfl), mt1 (List.mem_of_getElem? (i := 6) rfl), mt6 (List.mem_of_getElem? (i := 5) rfl), by decide +kernel⟩
theorem cb_M_320 : ax_CB VV "NumberFunctionsModel" 320 M_of_y M_of_c 3 (some .long) 2 := ⟨mt6 (List.mem_of_getElem? (i := 6) rfl), mt1 (List.mem_of_getElem? (i := 6) rfl), mt6 (List.mem_of_getElem? (i := 9) rfl), by decide +kernel⟩
theorem cb_M_104 : ax_CB VV "NumberFunctionsModel" 104 M_cutTo_y M_cutTo_c 6 (some .long) 3 := ⟨mt6 (List.mem_of_getElem? (i := 10) rfl), mt1 (List.mem_of_getElem? (i := 6) rfl), mt6 (List.mem_of_getElem? (i := 12) rfl), by decide +kernel⟩
theorem cb_M_324 : ax_CB VV "NumberFunctionsModel" 324 M_laid_y M_laid_c 10 (some .long) 5 := ⟨mt6 (List.mem_of_getElem? (i := 13) rfl), mt1 (List.mem_of_getElem? (i := 6) rfl), mt6 (List.mem_of_getElem? (i := 15) rfl), by decide +kernel⟩
theorem cb_M_116 : ax_CB VV "NumberFunctionsModel" 116 M_down_y M_down_c 4 (some .long) 2 := ⟨mt6 (List.mem_of_getElem? (i := 16) rfl), mt1 (List.mem_of_getElem? (i := 6) rfl), mt6 (List.mem_of_getElem? (i := 18) rfl), by decide +kernel⟩
theorem cb_M_108 : ax_CB VV "NumberFunctionsModel" 108 JMath_floorDiv_y JMath_floorDiv_c 6 (some .long) 2 := ⟨mt6 (List.mem_of_getElem? (i := 19) rfl), mt1 (List.mem_of_getElem? (i := 11) rfl), mt4 (List.mem_of_getElem? (i := 58) rfl), by decide +kernel⟩
theorem cb_M_119 : ax_CB VV "NumberFunctionsModel" 119 M_kept_y M_kept_c 2 (some .long) 1 := ⟨mt6 (List.mem_of_getElem? (i := 20) rfl), mt1 (List.mem_of_getElem? (i := 6) rfl), mt6 (List.mem_of_getElem? (i := 22) rfl), by decide +kernel⟩
theorem cb_M_310 : ax_CB VV "NumberFunctionsModel" 310 M_samples_y M_samples_c 13 none 2 := ⟨mt6 (List.mem_of_getElem? (i := 23) rfl), mt1 (List.mem_of_getElem? (i := 6) rfl), mt6 (List.mem_of_getElem? (i := 26) rfl), by decide +kernel⟩
theorem cb_M_331 : ax_CB VV "NumberFunctionsModel" 331 M_inputOf_y M_inputOf_c 4 (some .long) 2 := ⟨mt6 (List.mem_of_getElem? (i := 27) rfl), mt1 (List.mem_of_getElem? (i := 6) rfl), mt6 (List.mem_of_getElem? (i := 30) rfl), by decide +kernel⟩
theorem cb_M_334 : ax_CB VV "NumberFunctionsModel" 334 M_interpolated_y M_interpolated_c 15 (some .long) 3 := ⟨mt6 (List.mem_of_getElem? (i := 31) rfl), mt1 (List.mem_of_getElem? (i := 6) rfl), mt6 (List.mem_of_getElem? (i := 34) rfl), by decide +kernel⟩
theorem cb_M_342 : ax_CB VV "NumberFunctionsModel" 342 M_sampleAt_y M_sampleAt_c 9 (some .long) 3 := ⟨mt6 (List.mem_of_getElem? (i := 35) rfl), mt1 (List.mem_of_getElem? (i := 6) rfl), mt6 (List.mem_of_getElem? (i := 38) rfl), by decide +kernel⟩
theorem cb_M_338 : ax_CB VV "NumberFunctionsModel" 338 M_decoded_y M_decoded_c 11 (some .long) 4 := ⟨mt6 (List.mem_of_getElem? (i := 39) rfl), mt1 (List.mem_of_getElem? (i := 6) rfl), mt6 (List.mem_of_getElem? (i := 42) rfl), by decide +kernel⟩
theorem cb_M_314 : ax_CB VV "NumberFunctionsModel" 314 M_powers_y M_powers_c 11 none 2 := ⟨mt6 (List.mem_of_getElem? (i := 43) rfl), mt1 (List.mem_of_getElem? (i := 6) rfl), mt6 (List.mem_of_getElem? (i := 46) rfl), by decide +kernel⟩
theorem cb_M_328 : ax_CB VV "NumberFunctionsModel" 328 M_times_y M_times_c 4 (some .long) 2 := ⟨mt6 (List.mem_of_getElem? (i := 47) rfl), mt1 (List.mem_of_getElem? (i := 6) rfl), mt6 (List.mem_of_getElem? (i := 49) rfl), by decide +kernel⟩
theorem cb_M_317 : ax_CB VV "NumberFunctionsModel" 317 M_program_y M_program_c 6 none 2 := ⟨mt6 (List.mem_of_getElem? (i := 50) rfl), mt1 (List.mem_of_getElem? (i := 6) rfl), mt6 (List.mem_of_getElem? (i := 53) rfl), by decide +kernel⟩
theorem cb_M_349 : ax_CB VV "NumberFunctionsModel" 349 M_isGood_y M_isGood_c 1 (some .boolean) 0 := ⟨mt6 (List.mem_of_getElem? (i := 54) rfl), mt1 (List.mem_of_getElem? (i := 6) rfl), mt6 (List.mem_of_getElem? (i := 57) rfl), by decide +kernel⟩
theorem cb_M_376 : ax_CB VV "NumberFunctionsModel" 376 M_next_y M_next_c 3 (some .int) 2 := ⟨mt6 (List.mem_of_getElem? (i := 58) rfl), mt1 (List.mem_of_getElem? (i := 6) rfl), mt6 (List.mem_of_getElem? (i := 61) rfl), by decide +kernel⟩
theorem cb_M_379 : ax_CB VV "NumberFunctionsModel" 379 M_choose_y M_choose_c 7 (some .int) 2 := ⟨mt6 (List.mem_of_getElem? (i := 64) rfl), mt1 (List.mem_of_getElem? (i := 6) rfl), mt6 (List.mem_of_getElem? (i := 67) rfl), by decide +kernel⟩
theorem cb_M_389 : ax_CB VV "NumberFunctionsModel" 389 M_matchOf_y M_matchOf_c 6 (some .int) 2 := ⟨mt6 (List.mem_of_getElem? (i := 68) rfl), mt1 (List.mem_of_getElem? (i := 6) rfl), mt6 (List.mem_of_getElem? (i := 71) rfl), by decide +kernel⟩
theorem cb_M_363 : ax_CB VV "NumberFunctionsModel" 363 M_has_y M_has_c 2 (some .boolean) 1 := ⟨mt6 (List.mem_of_getElem? (i := 72) rfl), mt1 (List.mem_of_getElem? (i := 6) rfl), mt6 (List.mem_of_getElem? (i := 75) rfl), by decide +kernel⟩
theorem cb_M_356 : ax_CB VV "NumberFunctionsModel" 356 M_fail_y M_fail_c 2 none 1 := ⟨mt6 (List.mem_of_getElem? (i := 76) rfl), mt1 (List.mem_of_getElem? (i := 6) rfl), mt6 (List.mem_of_getElem? (i := 79) rfl), by decide +kernel⟩
theorem cb_M_392 : ax_CB VV "NumberFunctionsModel" 392 M_take_y M_take_c 1 (some .long) 0 := ⟨mt6 (List.mem_of_getElem? (i := 80) rfl), mt1 (List.mem_of_getElem? (i := 6) rfl), mt6 (List.mem_of_getElem? (i := 83) rfl), by decide +kernel⟩
theorem cb_M_382 : ax_CB VV "NumberFunctionsModel" 382 M_putNumber_y M_putNumber_c 3 none 1 := ⟨mt6 (List.mem_of_getElem? (i := 84) rfl), mt1 (List.mem_of_getElem? (i := 6) rfl), mt6 (List.mem_of_getElem? (i := 87) rfl), by decide +kernel⟩
theorem cb_M_359 : ax_CB VV "NumberFunctionsModel" 359 M_put_y M_put_c 4 none 2 := ⟨mt6 (List.mem_of_getElem? (i := 88) rfl), mt1 (List.mem_of_getElem? (i := 6) rfl), mt6 (List.mem_of_getElem? (i := 91) rfl), by decide +kernel⟩
theorem cb_M_386 : ax_CB VV "NumberFunctionsModel" 386 M_perform_y M_perform_c 2 none 1 := ⟨mt6 (List.mem_of_getElem? (i := 92) rfl), mt1 (List.mem_of_getElem? (i := 6) rfl), mt6 (List.mem_of_getElem? (i := 95) rfl), by decide +kernel⟩
theorem cb_M_396 : ax_CB VV "NumberFunctionsModel" 396 M_one_y M_one_c 4 none 1 := ⟨mt6 (List.mem_of_getElem? (i := 96) rfl), mt1 (List.mem_of_getElem? (i := 6) rfl), mt6 (List.mem_of_getElem? (i := 99) rfl), by decide +kernel⟩
theorem cb_M_366 : ax_CB VV "NumberFunctionsModel" 366 M_areNumbers_y M_areNumbers_c 4 (some .boolean) 1 := ⟨mt6 (List.mem_of_getElem? (i := 100) rfl), mt1 (List.mem_of_getElem? (i := 6) rfl), mt6 (List.mem_of_getElem? (i := 103) rfl), by decide +kernel⟩
theorem cb_M_417 : ax_CB VV "NumberFunctionsModel" 417 M_toZero_y M_toZero_c 2 (some .long) 1 := ⟨mt6 (List.mem_of_getElem? (i := 105) rfl), mt1 (List.mem_of_getElem? (i := 6) rfl), mt6 (List.mem_of_getElem? (i := 107) rfl), by decide +kernel⟩
theorem cb_M_420 : ax_CB VV "NumberFunctionsModel" 420 M_rootOf_y M_rootOf_c 8 (some .long) 1 := ⟨mt6 (List.mem_of_getElem? (i := 108) rfl), mt1 (List.mem_of_getElem? (i := 6) rfl), mt6 (List.mem_of_getElem? (i := 110) rfl), by decide +kernel⟩
theorem cb_M_399 : ax_CB VV "NumberFunctionsModel" 399 M_two_y M_two_c 7 none 1 := ⟨mt6 (List.mem_of_getElem? (i := 113) rfl), mt1 (List.mem_of_getElem? (i := 6) rfl), mt6 (List.mem_of_getElem? (i := 116) rfl), by decide +kernel⟩
theorem cb_M_423 : ax_CB VV "NumberFunctionsModel" 423 M_areWhole_y M_areWhole_c 4 (some .boolean) 1 := ⟨mt6 (List.mem_of_getElem? (i := 117) rfl), mt1 (List.mem_of_getElem? (i := 6) rfl), mt6 (List.mem_of_getElem? (i := 120) rfl), by decide +kernel⟩
theorem cb_M_402 : ax_CB VV "NumberFunctionsModel" 402 M_compare_y M_compare_c 7 none 1 := ⟨mt6 (List.mem_of_getElem? (i := 121) rfl), mt1 (List.mem_of_getElem? (i := 6) rfl), mt6 (List.mem_of_getElem? (i := 124) rfl), by decide +kernel⟩
theorem cb_M_426 : ax_CB VV "NumberFunctionsModel" 426 M_putTruth_y M_putTruth_c 2 none 1 := ⟨mt6 (List.mem_of_getElem? (i := 125) rfl), mt1 (List.mem_of_getElem? (i := 6) rfl), mt6 (List.mem_of_getElem? (i := 128) rfl), by decide +kernel⟩
theorem cb_M_405 : ax_CB VV "NumberFunctionsModel" 405 M_bits_y M_bits_c 2 none 1 := ⟨mt6 (List.mem_of_getElem? (i := 129) rfl), mt1 (List.mem_of_getElem? (i := 6) rfl), mt6 (List.mem_of_getElem? (i := 132) rfl), by decide +kernel⟩
theorem cb_M_430 : ax_CB VV "NumberFunctionsModel" 430 M_join_y M_join_c 5 none 1 := ⟨mt6 (List.mem_of_getElem? (i := 133) rfl), mt1 (List.mem_of_getElem? (i := 6) rfl), mt6 (List.mem_of_getElem? (i := 136) rfl), by decide +kernel⟩
theorem cb_M_438 : ax_CB VV "NumberFunctionsModel" 438 M_joined_y M_joined_c 5 (some .long) 3 := ⟨mt6 (List.mem_of_getElem? (i := 137) rfl), mt1 (List.mem_of_getElem? (i := 6) rfl), mt6 (List.mem_of_getElem? (i := 139) rfl), by decide +kernel⟩
theorem cb_M_433 : ax_CB VV "NumberFunctionsModel" 433 M_not_y M_not_c 1 none 0 := ⟨mt6 (List.mem_of_getElem? (i := 140) rfl), mt1 (List.mem_of_getElem? (i := 6) rfl), mt6 (List.mem_of_getElem? (i := 143) rfl), by decide +kernel⟩
theorem cb_M_435 : ax_CB VV "NumberFunctionsModel" 435 M_shift_y M_shift_c 4 none 0 := ⟨mt6 (List.mem_of_getElem? (i := 145) rfl), mt1 (List.mem_of_getElem? (i := 6) rfl), mt6 (List.mem_of_getElem? (i := 148) rfl), by decide +kernel⟩
theorem cb_M_408 : ax_CB VV "NumberFunctionsModel" 408 M_move_y M_move_c 2 none 1 := ⟨mt6 (List.mem_of_getElem? (i := 151) rfl), mt1 (List.mem_of_getElem? (i := 6) rfl), mt6 (List.mem_of_getElem? (i := 154) rfl), by decide +kernel⟩
theorem cb_M_448 : ax_CB VV "NumberFunctionsModel" 448 M_turn_y M_turn_c 10 none 2 := ⟨mt6 (List.mem_of_getElem? (i := 155) rfl), mt1 (List.mem_of_getElem? (i := 6) rfl), mt6 (List.mem_of_getElem? (i := 158) rfl), by decide +kernel⟩
theorem cb_M_451 : ax_CB VV "NumberFunctionsModel" 451 M_copy_y M_copy_c 4 none 0 := ⟨mt6 (List.mem_of_getElem? (i := 159) rfl), mt1 (List.mem_of_getElem? (i := 6) rfl), mt6 (List.mem_of_getElem? (i := 162) rfl), by decide +kernel⟩
theorem cb_M_457 : ax_CB VV "NumberFunctionsModel" 457 M_isAmount_y M_isAmount_c 2 (some .boolean) 1 := ⟨mt6 (List.mem_of_getElem? (i := 163) rfl), mt1 (List.mem_of_getElem? (i := 6) rfl), mt6 (List.mem_of_getElem? (i := 166) rfl), by decide +kernel⟩
theorem cb_M_453 : ax_CB VV "NumberFunctionsModel" 453 M_index_y M_index_c 3 none 0 := ⟨mt6 (List.mem_of_getElem? (i := 168) rfl), mt1 (List.mem_of_getElem? (i := 6) rfl), mt6 (List.mem_of_getElem? (i := 171) rfl), by decide +kernel⟩
theorem cb_M_455 : ax_CB VV "NumberFunctionsModel" 455 M_roll_y M_roll_c 5 none 0 := ⟨mt6 (List.mem_of_getElem? (i := 172) rfl), mt1 (List.mem_of_getElem? (i := 6) rfl), mt6 (List.mem_of_getElem? (i := 175) rfl), by decide +kernel⟩
theorem cb_M_462 : ax_CB VV "NumberFunctionsModel" 462 JMath_floorMod2_y JMath_floorMod2_c 6 (some .long) 2 := ⟨mt6 (List.mem_of_getElem? (i := 176) rfl), mt1 (List.mem_of_getElem? (i := 11) rfl), mt6 (List.mem_of_getElem? (i := 178) rfl), by decide +kernel⟩
end
section
/-! the constant cells: 0 .. 38 the words, 39 .. 77 their texts, 78 .. 86 the messages, 87 Word.ALL, 88 the switch table, 89 the script, 90 .. 128 the texts' bytes -/
def v_cst : List va_E := [.inr (13, [.ref 39, .int 0, .int 0, .int 0]), .inr (13, [.ref 40, .int 0, .int 0, .int 1]), .inr (13, [.ref 41, .int 0, .int 1, .int 2]), .inr (13, [.ref 42, .int 0, .int 1, .int 3]), .inr (13, [.ref 43, .int 0, .int 1, .int 4]), .inr (13, [.ref 44, .int 1, .int 2, .int 5]), .inr (13, [.ref 45, .int 1, .int 2, .int 6]), .inr (13, [.ref 46, .int 1, .int 2, .int 7]), .inr (13, [.ref 47, .int 1, .int 2, .int 8]), .inr (13, [.ref 48, .int 1, .int 2, .int 9]), .inr (13, [.ref 49, .int 1, .int 2, .int 10]), .inr (13, [.ref 50, .int 1, .int 2, .int 11]), .inr (13, [.ref 51, .int 1, .int 2, .int 12]), .inr (13, [.ref 52, .int 1, .int 2, .int 13]), .inr (13, [.ref 53, .int 2, .int 3, .int 14]), .inr (13, [.ref 54, .int 2, .int 3, .int 15]), .inr (13, [.ref 55, .int 2, .int 3, .int 16]), .inr (13, [.ref 56, .int 2, .int 3, .int 17]), .inr (13, [.ref 57, .int 2, .int 4, .int 18]), .inr (13, [.ref 58, .int 2, .int 4, .int 19]), .inr (13, [.ref 59, .int 2, .int 4, .int 20]), .inr (13, [.ref 60, .int 2, .int 5, .int 21]), .inr (13, [.ref 61, .int 2, .int 5, .int 22]), .inr (13, [.ref 62, .int 2, .int 5, .int 23]), .inr (13, [.ref 63, .int 2, .int 5, .int 24]), .inr (13, [.ref 64, .int 2, .int 5, .int 25]), .inr (13, [.ref 65, .int 2, .int 5, .int 26]), .inr (13, [.ref 66, .int 2, .int 6, .int 27]), .inr (13, [.ref 67, .int 2, .int 6, .int 28]), .inr (13, [.ref 68, .int 2, .int 6, .int 29]), .inr (13, [.ref 69, .int 1, .int 6, .int 30]), .inr (13, [.ref 70, .int 1, .int 7, .int 31]), .inr (13, [.ref 71, .int 2, .int 7, .int 32]), .inr (13, [.ref 72, .int 1, .int 7, .int 33]), .inr (13, [.ref 73, .int 1, .int 8, .int 34]), .inr (13, [.ref 74, .int 1, .int 8, .int 35]), .inr (13, [.ref 75, .int 2, .int 8, .int 36]), .inr (13, [.ref 76, .int 1, .int 9, .int 37]), .inr (13, [.ref 77, .int 1, .int 9, .int 38]), .inr (14, [.ref 90, .int 0]), .inr (14, [.ref 91, .int 0]), .inr (14, [.ref 92, .int 0]), .inr (14, [.ref 93, .int 0]), .inr (14, [.ref 94, .int 0]), .inr (14, [.ref 95, .int 0]), .inr (14, [.ref 96, .int 0]), .inr (14, [.ref 97, .int 0]), .inr (14, [.ref 98, .int 0]), .inr (14, [.ref 99, .int 0]), .inr (14, [.ref 100, .int 0]), .inr (14, [.ref 101, .int 0]), .inr (14, [.ref 102, .int 0]), .inr (14, [.ref 103, .int 0]), .inr (14, [.ref 104, .int 0]), .inr (14, [.ref 105, .int 0]), .inr (14, [.ref 106, .int 0]), .inr (14, [.ref 107, .int 0]), .inr (14, [.ref 108, .int 0]), .inr (14, [.ref 109, .int 0]), .inr (14, [.ref 110, .int 0]), .inr (14, [.ref 111, .int 0]), .inr (14, [.ref 112, .int 0]), .inr (14, [.ref 113, .int 0]), .inr (14, [.ref 114, .int 0]), .inr (14, [.ref 115, .int 0]), .inr (14, [.ref 116, .int 0]), .inr (14, [.ref 117, .int 0]), .inr (14, [.ref 118, .int 0]), .inr (14, [.ref 119, .int 0]), .inr (14, [.ref 120, .int 0]), .inr (14, [.ref 121, .int 0]), .inr (14, [.ref 122, .int 0]), .inr (14, [.ref 123, .int 0]), .inr (14, [.ref 124, .int 0]), .inr (14, [.ref 125, .int 0]), .inr (14, [.ref 126, .int 0]), .inr (14, [.ref 127, .int 0]), .inr (14, [.ref 128, .int 0]), ax_dm, ax_dm, ax_dm, ax_dm, ax_dm, ax_dm, ax_dm, ax_dm, ax_dm, ax_dm, ax_dm, ax_dm, ax_dm, ax_dm, ax_dm, ax_dm, ax_dm, ax_dm, ax_dm, ax_dm, ax_dm, ax_dm, ax_dm, ax_dm, ax_dm, ax_dm, ax_dm, ax_dm, ax_dm, ax_dm, ax_dm, ax_dm, ax_dm, ax_dm, ax_dm, ax_dm, ax_dm, ax_dm, ax_dm, ax_dm, ax_dm, ax_dm, ax_dm, ax_dm, ax_dm, ax_dm, ax_dm, ax_dm, ax_dm, ax_dm, ax_dm]
/-! the class's cells, 129 .. 149: its ints 'i', its arrays of ints 'a', its arrays of references 'r', the reader's row
i: 0 rowLength, 1 functionCount, 2 telling.count, 3 fault.what, 4 fault.place, 5 reader.count, 6 reader.depth, 7 reader.length, 8 reader.numeral, 9 machine.size, 10 machine.chosen
a: 0 row, 1 telling.numbers, 2 inputNumbers, 3 outputNumbers, 4 given, 5 reader.numbers, 6 onward, 7 otherwise, 8 opened, 9 waiting, 10 first, 11 second, 12 machine.values, 13 truths
r: 0 functions, 1 reader.words -/
abbrev x_S : Type := (Nat → Int32) × (Nat → Nat → Int32) × (Nat → Nat → Option Nat) × Value
def x_cs (S : x_S) : List va_E :=
  [.inr (0, [.ref 130, .int (S.1 0), .ref 131, .ref 133, .int (S.1 1), .ref 134, .ref 135, .ref 136, .ref 137, .ref 138, .ref 147]),
   .inl (1, 8192, .inl (S.2.1 0)),
   .inr (1, [.ref 132, .int (S.1 2)]), .inl (0, 96, .inl (S.2.1 1)),
   .inl (4, 24, .inr (.inr (.inr (.inr (S.2.2.1 0))))),
   .inl (0, 4, .inl (S.2.1 2)), .inl (0, 4, .inl (S.2.1 3)), .inl (0, 4, .inl (S.2.1 4)),
   .inr (2, [.int (S.1 3), .int (S.1 4)]),
   .inr (3, [.ref 139, .ref 140, .ref 141, .ref 142, .int (S.1 5), .ref 143, .ref 144, .ref 145, .ref 146, .int (S.1 6), S.2.2.2, .int (S.1 7), .int (S.1 8)]),
   .inl (5, 400, .inr (.inr (.inr (.inr (S.2.2.1 1))))), .inl (0, 400, .inl (S.2.1 5)), .inl (0, 400, .inl (S.2.1 6)), .inl (0, 400, .inl (S.2.1 7)),
   .inl (0, 13, .inl (S.2.1 8)), .inl (0, 13, .inl (S.2.1 9)), .inl (0, 13, .inl (S.2.1 10)), .inl (0, 13, .inl (S.2.1 11)),
   .inr (4, [.ref 148, .ref 149, .int (S.1 9), .int (S.1 10)]),
   .inl (0, 60, .inl (S.2.1 12)), .inl (3, 60, .inl (S.2.1 13))]
/-! the reference's cells, 150 .. 169: its ints 'i', its arrays of ints 'a', of longs 'l'
i: 0 refusal, 1 size, 2 told, 3 faultKind, 4 faultPlace, 5 functions, 6 words, 7 wrong, 8 wrongAt, 9 depth, 10 open, 11 place, 12 stitchedTo
a: 0 row, 1 telling, 2 inputs, 3 outputs, 4 kinds, 5 takes, 6 gives, 7 numbers, 8 sizes, 9 bytes, 10 wholes, 11 begins, 12 ends, 13 isTruth, 14 returns
l: 0 corners, 1 rests, 2 given, 3 stack -/
abbrev x_M : Type := (Nat → Int32) × (Nat → Nat → Int32) × (Nat → Nat → Int64)
def x_ms (M : x_M) : List va_E :=
  [.inr (9, [.int (M.1 0), .int (M.1 1), .ref 151, .int (M.1 2), .ref 152, .ref 153, .ref 154, .int (M.1 3), .int (M.1 4), .int (M.1 5), .ref 155, .ref 156, .ref 157, .ref 158, .ref 159, .ref 160, .ref 161, .ref 162, .ref 163, .ref 164, .int (M.1 6), .ref 165, .ref 166, .int (M.1 7), .int (M.1 8), .int (M.1 9), .ref 167, .ref 168, .ref 169, .int (M.1 10), .int (M.1 11), .int (M.1 12)]),
   .inl (1, 8192, .inl (M.2.1 0)), .inl (0, 96, .inl (M.2.1 1)), .inl (0, 4, .inl (M.2.1 2)), .inl (0, 4, .inl (M.2.1 3)),
   .inl (0, 24, .inl (M.2.1 4)), .inl (0, 24, .inl (M.2.1 5)), .inl (0, 24, .inl (M.2.1 6)), .inl (0, 2304, .inl (M.2.1 7)), .inl (0, 24, .inl (M.2.1 8)),
   .inl (1, 196608, .inl (M.2.1 9)), .inl (2, 8, .inr (.inl (M.2.2 0))), .inl (0, 4, .inl (M.2.1 10)), .inl (2, 4, .inr (.inl (M.2.2 1))), .inl (2, 4, .inr (.inl (M.2.2 2))),
   .inl (0, 402, .inl (M.2.1 11)), .inl (0, 402, .inl (M.2.1 12)), .inl (2, 60, .inr (.inl (M.2.2 3))), .inl (3, 60, .inl (M.2.1 13)), .inl (0, 20, .inl (M.2.1 14))]
/-- the heap: constants, the class, the rest -/
def x_hC (S : x_S) (tl : List va_E) : List va_E := v_cst ++ (x_cs S ++ tl)
/-- .. constants, the class, the reference, the rest -/
def x_hM (S : x_S) (M : x_M) (tl : List va_E) : List va_E := x_hC S (x_ms M ++ tl)
def x_i (S : x_S) (k : Nat) (x : Int32) : x_S := (upd S.1 k x, S.2)
def x_a (S : x_S) (k j : Nat) (x : Int32) : x_S := (S.1, va_up S.2.1 k (upd (S.2.1 k) j x), S.2.2)
def x_r (S : x_S) (k j : Nat) (x : Option Nat) : x_S := (S.1, S.2.1, va_up S.2.2.1 k (va_up (S.2.2.1 k) j x), S.2.2.2)
def y_i (M : x_M) (k : Nat) (x : Int32) : x_M := (upd M.1 k x, M.2)
def y_a (M : x_M) (k j : Nat) (x : Int32) : x_M := (M.1, va_up M.2.1 k (upd (M.2.1 k) j x), M.2.2)
def y_l (M : x_M) (k j : Nat) (x : Int64) : x_M := (M.1, M.2.1, va_up M.2.2 k (vp_updL (M.2.2 k) j x))
end
section
/-! rules for the fields and arrays of the class (heap x_hC S tl) and of the reference (heap x_hM S M tl):
cp<i> mp<i>: an int field is written; cl<k> cs<k>: the class's array k is read, written; ml<k> ms<k> the reference's int arrays; mll<k> msl<k> its long arrays -/
section AXSP
variable {p : Program} {l : Launch} {e : Env} {R : Room} {s : State} {m : MethodId} {args : Array Value} {below : List Frame} {meth : Method} {c : Code} {G : ax_G} {cc : ByteArray} {nL : Nat} {own : String} {pl : ax_pool} {ret : Option FieldType} {cells slots : Nat} {Q : State → Prop}
variable {pc : Nat} {lv : List (Nat × Value)} {r : List Value} {S : x_S} {M : x_M} {tl : List va_E} {j : Nat} {i : Int32}
theorem AW.cp0 (X : ax_X p m meth c s args VV G cc nL own pl ret) {x : Int32} {idx : Nat} (hd : decode cc pc = .ok (.putfield idx, 3)) (kk : AW p l e R s m args below meth c VV G nL (x_hC (x_i S 0 x) tl) cells slots Q (pc + 3) lv r) (hf : pl.1 idx 0 = some 1 := by rfl) : AW p l e R s m args below meth c VV G nL (x_hC S tl) cells slots Q pc lv (.int x :: .ref 129 :: r) :=
  AW.put (C := "NumberFunctions") (T := Cl_N) (N := 11) (ty := .int) X rfl (by decide) hf rfl L_N rfl rfl rfl rfl (Nat.le_of_ble_eq_true rfl) hd (AW.eq (h' := x_hC (x_i S 0 x) tl) rfl kk)
theorem AW.cp1 (X : ax_X p m meth c s args VV G cc nL own pl ret) {x : Int32} {idx : Nat} (hd : decode cc pc = .ok (.putfield idx, 3)) (kk : AW p l e R s m args below meth c VV G nL (x_hC (x_i S 1 x) tl) cells slots Q (pc + 3) lv r) (hf : pl.1 idx 0 = some 4 := by rfl) : AW p l e R s m args below meth c VV G nL (x_hC S tl) cells slots Q pc lv (.int x :: .ref 129 :: r) :=
  AW.put (C := "NumberFunctions") (T := Cl_N) (N := 11) (ty := .int) X rfl (by decide) hf rfl L_N rfl rfl rfl rfl (Nat.le_of_ble_eq_true rfl) hd (AW.eq (h' := x_hC (x_i S 1 x) tl) rfl kk)
theorem AW.cp2 (X : ax_X p m meth c s args VV G cc nL own pl ret) {x : Int32} {idx : Nat} (hd : decode cc pc = .ok (.putfield idx, 3)) (kk : AW p l e R s m args below meth c VV G nL (x_hC (x_i S 2 x) tl) cells slots Q (pc + 3) lv r) (hf : pl.1 idx 1 = some 1 := by rfl) : AW p l e R s m args below meth c VV G nL (x_hC S tl) cells slots Q pc lv (.int x :: .ref 131 :: r) :=
  AW.put (C := "NumberFunctions$Telling") (T := Cl_T) (N := 2) (ty := .int) X rfl (by decide) hf rfl L_T rfl rfl rfl rfl (Nat.le_of_ble_eq_true rfl) hd (AW.eq (h' := x_hC (x_i S 2 x) tl) rfl kk)
theorem AW.cp3 (X : ax_X p m meth c s args VV G cc nL own pl ret) {x : Int32} {idx : Nat} (hd : decode cc pc = .ok (.putfield idx, 3)) (kk : AW p l e R s m args below meth c VV G nL (x_hC (x_i S 3 x) tl) cells slots Q (pc + 3) lv r) (hf : pl.1 idx 2 = some 0 := by rfl) : AW p l e R s m args below meth c VV G nL (x_hC S tl) cells slots Q pc lv (.int x :: .ref 137 :: r) :=
  AW.put (C := "NumberFunctions$Fault") (T := Cl_U) (N := 2) (ty := .int) X rfl (by decide) hf rfl L_U rfl rfl rfl rfl (Nat.le_of_ble_eq_true rfl) hd (AW.eq (h' := x_hC (x_i S 3 x) tl) rfl kk)
theorem AW.cp4 (X : ax_X p m meth c s args VV G cc nL own pl ret) {x : Int32} {idx : Nat} (hd : decode cc pc = .ok (.putfield idx, 3)) (kk : AW p l e R s m args below meth c VV G nL (x_hC (x_i S 4 x) tl) cells slots Q (pc + 3) lv r) (hf : pl.1 idx 2 = some 1 := by rfl) : AW p l e R s m args below meth c VV G nL (x_hC S tl) cells slots Q pc lv (.int x :: .ref 137 :: r) :=
  AW.put (C := "NumberFunctions$Fault") (T := Cl_U) (N := 2) (ty := .int) X rfl (by decide) hf rfl L_U rfl rfl rfl rfl (Nat.le_of_ble_eq_true rfl) hd (AW.eq (h' := x_hC (x_i S 4 x) tl) rfl kk)
theorem AW.cp5 (X : ax_X p m meth c s args VV G cc nL own pl ret) {x : Int32} {idx : Nat} (hd : decode cc pc = .ok (.putfield idx, 3)) (kk : AW p l e R s m args below meth c VV G nL (x_hC (x_i S 5 x) tl) cells slots Q (pc + 3) lv r) (hf : pl.1 idx 3 = some 4 := by rfl) : AW p l e R s m args below meth c VV G nL (x_hC S tl) cells slots Q pc lv (.int x :: .ref 138 :: r) :=
  AW.put (C := "NumberFunctions$Reader") (T := Cl_R) (N := 13) (ty := .int) X rfl (by decide) hf rfl L_R rfl rfl rfl rfl (Nat.le_of_ble_eq_true rfl) hd (AW.eq (h' := x_hC (x_i S 5 x) tl) rfl kk)
theorem AW.cp6 (X : ax_X p m meth c s args VV G cc nL own pl ret) {x : Int32} {idx : Nat} (hd : decode cc pc = .ok (.putfield idx, 3)) (kk : AW p l e R s m args below meth c VV G nL (x_hC (x_i S 6 x) tl) cells slots Q (pc + 3) lv r) (hf : pl.1 idx 3 = some 9 := by rfl) : AW p l e R s m args below meth c VV G nL (x_hC S tl) cells slots Q pc lv (.int x :: .ref 138 :: r) :=
  AW.put (C := "NumberFunctions$Reader") (T := Cl_R) (N := 13) (ty := .int) X rfl (by decide) hf rfl L_R rfl rfl rfl rfl (Nat.le_of_ble_eq_true rfl) hd (AW.eq (h' := x_hC (x_i S 6 x) tl) rfl kk)
theorem AW.cp7 (X : ax_X p m meth c s args VV G cc nL own pl ret) {x : Int32} {idx : Nat} (hd : decode cc pc = .ok (.putfield idx, 3)) (kk : AW p l e R s m args below meth c VV G nL (x_hC (x_i S 7 x) tl) cells slots Q (pc + 3) lv r) (hf : pl.1 idx 3 = some 11 := by rfl) : AW p l e R s m args below meth c VV G nL (x_hC S tl) cells slots Q pc lv (.int x :: .ref 138 :: r) :=
  AW.put (C := "NumberFunctions$Reader") (T := Cl_R) (N := 13) (ty := .int) X rfl (by decide) hf rfl L_R rfl rfl rfl rfl (Nat.le_of_ble_eq_true rfl) hd (AW.eq (h' := x_hC (x_i S 7 x) tl) rfl kk)
theorem AW.cp8 (X : ax_X p m meth c s args VV G cc nL own pl ret) {x : Int32} {idx : Nat} (hd : decode cc pc = .ok (.putfield idx, 3)) (kk : AW p l e R s m args below meth c VV G nL (x_hC (x_i S 8 x) tl) cells slots Q (pc + 3) lv r) (hf : pl.1 idx 3 = some 12 := by rfl) : AW p l e R s m args below meth c VV G nL (x_hC S tl) cells slots Q pc lv (.int x :: .ref 138 :: r) :=
  AW.put (C := "NumberFunctions$Reader") (T := Cl_R) (N := 13) (ty := .int) X rfl (by decide) hf rfl L_R rfl rfl rfl rfl (Nat.le_of_ble_eq_true rfl) hd (AW.eq (h' := x_hC (x_i S 8 x) tl) rfl kk)
theorem AW.cp9 (X : ax_X p m meth c s args VV G cc nL own pl ret) {x : Int32} {idx : Nat} (hd : decode cc pc = .ok (.putfield idx, 3)) (kk : AW p l e R s m args below meth c VV G nL (x_hC (x_i S 9 x) tl) cells slots Q (pc + 3) lv r) (hf : pl.1 idx 4 = some 2 := by rfl) : AW p l e R s m args below meth c VV G nL (x_hC S tl) cells slots Q pc lv (.int x :: .ref 147 :: r) :=
  AW.put (C := "NumberFunctions$Machine") (T := Cl_K) (N := 4) (ty := .int) X rfl (by decide) hf rfl L_K rfl rfl rfl rfl (Nat.le_of_ble_eq_true rfl) hd (AW.eq (h' := x_hC (x_i S 9 x) tl) rfl kk)
theorem AW.mp0 (X : ax_X p m meth c s args VV G cc nL own pl ret) {x : Int32} {idx : Nat} (hd : decode cc pc = .ok (.putfield idx, 3)) (kk : AW p l e R s m args below meth c VV G nL (x_hM S (y_i M 0 x) tl) cells slots Q (pc + 3) lv r) (hf : pl.1 idx 9 = some 0 := by rfl) : AW p l e R s m args below meth c VV G nL (x_hM S M tl) cells slots Q pc lv (.int x :: .ref 150 :: r) :=
  AW.put (C := "NumberFunctionsModel") (T := Cl_M) (N := 32) (ty := .int) X rfl (by decide) hf rfl L_M rfl rfl rfl rfl (Nat.le_of_ble_eq_true rfl) hd (AW.eq (h' := x_hM S (y_i M 0 x) tl) rfl kk)
theorem AW.mp1 (X : ax_X p m meth c s args VV G cc nL own pl ret) {x : Int32} {idx : Nat} (hd : decode cc pc = .ok (.putfield idx, 3)) (kk : AW p l e R s m args below meth c VV G nL (x_hM S (y_i M 1 x) tl) cells slots Q (pc + 3) lv r) (hf : pl.1 idx 9 = some 1 := by rfl) : AW p l e R s m args below meth c VV G nL (x_hM S M tl) cells slots Q pc lv (.int x :: .ref 150 :: r) :=
  AW.put (C := "NumberFunctionsModel") (T := Cl_M) (N := 32) (ty := .int) X rfl (by decide) hf rfl L_M rfl rfl rfl rfl (Nat.le_of_ble_eq_true rfl) hd (AW.eq (h' := x_hM S (y_i M 1 x) tl) rfl kk)
theorem AW.mp2 (X : ax_X p m meth c s args VV G cc nL own pl ret) {x : Int32} {idx : Nat} (hd : decode cc pc = .ok (.putfield idx, 3)) (kk : AW p l e R s m args below meth c VV G nL (x_hM S (y_i M 2 x) tl) cells slots Q (pc + 3) lv r) (hf : pl.1 idx 9 = some 3 := by rfl) : AW p l e R s m args below meth c VV G nL (x_hM S M tl) cells slots Q pc lv (.int x :: .ref 150 :: r) :=
  AW.put (C := "NumberFunctionsModel") (T := Cl_M) (N := 32) (ty := .int) X rfl (by decide) hf rfl L_M rfl rfl rfl rfl (Nat.le_of_ble_eq_true rfl) hd (AW.eq (h' := x_hM S (y_i M 2 x) tl) rfl kk)
theorem AW.mp3 (X : ax_X p m meth c s args VV G cc nL own pl ret) {x : Int32} {idx : Nat} (hd : decode cc pc = .ok (.putfield idx, 3)) (kk : AW p l e R s m args below meth c VV G nL (x_hM S (y_i M 3 x) tl) cells slots Q (pc + 3) lv r) (hf : pl.1 idx 9 = some 7 := by rfl) : AW p l e R s m args below meth c VV G nL (x_hM S M tl) cells slots Q pc lv (.int x :: .ref 150 :: r) :=
  AW.put (C := "NumberFunctionsModel") (T := Cl_M) (N := 32) (ty := .int) X rfl (by decide) hf rfl L_M rfl rfl rfl rfl (Nat.le_of_ble_eq_true rfl) hd (AW.eq (h' := x_hM S (y_i M 3 x) tl) rfl kk)
theorem AW.mp4 (X : ax_X p m meth c s args VV G cc nL own pl ret) {x : Int32} {idx : Nat} (hd : decode cc pc = .ok (.putfield idx, 3)) (kk : AW p l e R s m args below meth c VV G nL (x_hM S (y_i M 4 x) tl) cells slots Q (pc + 3) lv r) (hf : pl.1 idx 9 = some 8 := by rfl) : AW p l e R s m args below meth c VV G nL (x_hM S M tl) cells slots Q pc lv (.int x :: .ref 150 :: r) :=
  AW.put (C := "NumberFunctionsModel") (T := Cl_M) (N := 32) (ty := .int) X rfl (by decide) hf rfl L_M rfl rfl rfl rfl (Nat.le_of_ble_eq_true rfl) hd (AW.eq (h' := x_hM S (y_i M 4 x) tl) rfl kk)
theorem AW.mp5 (X : ax_X p m meth c s args VV G cc nL own pl ret) {x : Int32} {idx : Nat} (hd : decode cc pc = .ok (.putfield idx, 3)) (kk : AW p l e R s m args below meth c VV G nL (x_hM S (y_i M 5 x) tl) cells slots Q (pc + 3) lv r) (hf : pl.1 idx 9 = some 9 := by rfl) : AW p l e R s m args below meth c VV G nL (x_hM S M tl) cells slots Q pc lv (.int x :: .ref 150 :: r) :=
  AW.put (C := "NumberFunctionsModel") (T := Cl_M) (N := 32) (ty := .int) X rfl (by decide) hf rfl L_M rfl rfl rfl rfl (Nat.le_of_ble_eq_true rfl) hd (AW.eq (h' := x_hM S (y_i M 5 x) tl) rfl kk)
theorem AW.mp6 (X : ax_X p m meth c s args VV G cc nL own pl ret) {x : Int32} {idx : Nat} (hd : decode cc pc = .ok (.putfield idx, 3)) (kk : AW p l e R s m args below meth c VV G nL (x_hM S (y_i M 6 x) tl) cells slots Q (pc + 3) lv r) (hf : pl.1 idx 9 = some 20 := by rfl) : AW p l e R s m args below meth c VV G nL (x_hM S M tl) cells slots Q pc lv (.int x :: .ref 150 :: r) :=
  AW.put (C := "NumberFunctionsModel") (T := Cl_M) (N := 32) (ty := .int) X rfl (by decide) hf rfl L_M rfl rfl rfl rfl (Nat.le_of_ble_eq_true rfl) hd (AW.eq (h' := x_hM S (y_i M 6 x) tl) rfl kk)
theorem AW.mp7 (X : ax_X p m meth c s args VV G cc nL own pl ret) {x : Int32} {idx : Nat} (hd : decode cc pc = .ok (.putfield idx, 3)) (kk : AW p l e R s m args below meth c VV G nL (x_hM S (y_i M 7 x) tl) cells slots Q (pc + 3) lv r) (hf : pl.1 idx 9 = some 23 := by rfl) : AW p l e R s m args below meth c VV G nL (x_hM S M tl) cells slots Q pc lv (.int x :: .ref 150 :: r) :=
  AW.put (C := "NumberFunctionsModel") (T := Cl_M) (N := 32) (ty := .int) X rfl (by decide) hf rfl L_M rfl rfl rfl rfl (Nat.le_of_ble_eq_true rfl) hd (AW.eq (h' := x_hM S (y_i M 7 x) tl) rfl kk)
theorem AW.mp8 (X : ax_X p m meth c s args VV G cc nL own pl ret) {x : Int32} {idx : Nat} (hd : decode cc pc = .ok (.putfield idx, 3)) (kk : AW p l e R s m args below meth c VV G nL (x_hM S (y_i M 8 x) tl) cells slots Q (pc + 3) lv r) (hf : pl.1 idx 9 = some 24 := by rfl) : AW p l e R s m args below meth c VV G nL (x_hM S M tl) cells slots Q pc lv (.int x :: .ref 150 :: r) :=
  AW.put (C := "NumberFunctionsModel") (T := Cl_M) (N := 32) (ty := .int) X rfl (by decide) hf rfl L_M rfl rfl rfl rfl (Nat.le_of_ble_eq_true rfl) hd (AW.eq (h' := x_hM S (y_i M 8 x) tl) rfl kk)
theorem AW.mp9 (X : ax_X p m meth c s args VV G cc nL own pl ret) {x : Int32} {idx : Nat} (hd : decode cc pc = .ok (.putfield idx, 3)) (kk : AW p l e R s m args below meth c VV G nL (x_hM S (y_i M 9 x) tl) cells slots Q (pc + 3) lv r) (hf : pl.1 idx 9 = some 25 := by rfl) : AW p l e R s m args below meth c VV G nL (x_hM S M tl) cells slots Q pc lv (.int x :: .ref 150 :: r) :=
  AW.put (C := "NumberFunctionsModel") (T := Cl_M) (N := 32) (ty := .int) X rfl (by decide) hf rfl L_M rfl rfl rfl rfl (Nat.le_of_ble_eq_true rfl) hd (AW.eq (h' := x_hM S (y_i M 9 x) tl) rfl kk)
theorem AW.mp10 (X : ax_X p m meth c s args VV G cc nL own pl ret) {x : Int32} {idx : Nat} (hd : decode cc pc = .ok (.putfield idx, 3)) (kk : AW p l e R s m args below meth c VV G nL (x_hM S (y_i M 10 x) tl) cells slots Q (pc + 3) lv r) (hf : pl.1 idx 9 = some 29 := by rfl) : AW p l e R s m args below meth c VV G nL (x_hM S M tl) cells slots Q pc lv (.int x :: .ref 150 :: r) :=
  AW.put (C := "NumberFunctionsModel") (T := Cl_M) (N := 32) (ty := .int) X rfl (by decide) hf rfl L_M rfl rfl rfl rfl (Nat.le_of_ble_eq_true rfl) hd (AW.eq (h' := x_hM S (y_i M 10 x) tl) rfl kk)
theorem AW.mp11 (X : ax_X p m meth c s args VV G cc nL own pl ret) {x : Int32} {idx : Nat} (hd : decode cc pc = .ok (.putfield idx, 3)) (kk : AW p l e R s m args below meth c VV G nL (x_hM S (y_i M 11 x) tl) cells slots Q (pc + 3) lv r) (hf : pl.1 idx 9 = some 30 := by rfl) : AW p l e R s m args below meth c VV G nL (x_hM S M tl) cells slots Q pc lv (.int x :: .ref 150 :: r) :=
  AW.put (C := "NumberFunctionsModel") (T := Cl_M) (N := 32) (ty := .int) X rfl (by decide) hf rfl L_M rfl rfl rfl rfl (Nat.le_of_ble_eq_true rfl) hd (AW.eq (h' := x_hM S (y_i M 11 x) tl) rfl kk)
theorem AW.mp12 (X : ax_X p m meth c s args VV G cc nL own pl ret) {x : Int32} {idx : Nat} (hd : decode cc pc = .ok (.putfield idx, 3)) (kk : AW p l e R s m args below meth c VV G nL (x_hM S (y_i M 12 x) tl) cells slots Q (pc + 3) lv r) (hf : pl.1 idx 9 = some 31 := by rfl) : AW p l e R s m args below meth c VV G nL (x_hM S M tl) cells slots Q pc lv (.int x :: .ref 150 :: r) :=
  AW.put (C := "NumberFunctionsModel") (T := Cl_M) (N := 32) (ty := .int) X rfl (by decide) hf rfl L_M rfl rfl rfl rfl (Nat.le_of_ble_eq_true rfl) hd (AW.eq (h' := x_hM S (y_i M 12 x) tl) rfl kk)
theorem AW.cl0 (X : ax_X p m meth c s args VV G cc nL own pl ret) (hi : i = nI j) (hj : j < 8192) (hd : decode cc pc = .ok (.baload, 1)) (kk : AW p l e R s m args below meth c VV G nL (x_hC S tl) cells slots Q (pc + 1) lv (.int (S.2.1 0 j) :: r)) : AW p l e R s m args below meth c VV G nL (x_hC S tl) cells slots Q pc lv (.int i :: .ref 130 :: r) :=
  AW.bald X rfl rfl hi hj (by decide) hd kk
theorem AW.cs0 (X : ax_X p m meth c s args VV G cc nL own pl ret) {x : Int32} (hi : i = nI j) (hj : j < 8192) (hd : decode cc pc = .ok (.bastore, 1)) (kk : AW p l e R s m args below meth c VV G nL (x_hC (x_a S 0 j (vp_nar .byte x)) tl) cells slots Q (pc + 1) lv r) : AW p l e R s m args below meth c VV G nL (x_hC S tl) cells slots Q pc lv (.int x :: .int i :: .ref 130 :: r) :=
  AW.bast X rfl rfl (by decide) hi hj (by decide) hd (AW.eq (h' := x_hC (x_a S 0 j (vp_nar .byte x)) tl) rfl kk)
theorem AW.cl1 (X : ax_X p m meth c s args VV G cc nL own pl ret) (hi : i = nI j) (hj : j < 96) (hd : decode cc pc = .ok (.iaload, 1)) (kk : AW p l e R s m args below meth c VV G nL (x_hC S tl) cells slots Q (pc + 1) lv (.int (S.2.1 1 j) :: r)) : AW p l e R s m args below meth c VV G nL (x_hC S tl) cells slots Q pc lv (.int i :: .ref 132 :: r) :=
  AW.iald X rfl rfl hi hj (by decide) hd kk
theorem AW.cs1 (X : ax_X p m meth c s args VV G cc nL own pl ret) {x : Int32} (hi : i = nI j) (hj : j < 96) (hd : decode cc pc = .ok (.iastore, 1)) (kk : AW p l e R s m args below meth c VV G nL (x_hC (x_a S 1 j x) tl) cells slots Q (pc + 1) lv r) : AW p l e R s m args below meth c VV G nL (x_hC S tl) cells slots Q pc lv (.int x :: .int i :: .ref 132 :: r) :=
  AW.iast X rfl rfl (by decide) hi hj (by decide) hd (AW.eq (h' := x_hC (x_a S 1 j x) tl) rfl kk)
theorem AW.cl2 (X : ax_X p m meth c s args VV G cc nL own pl ret) (hi : i = nI j) (hj : j < 4) (hd : decode cc pc = .ok (.iaload, 1)) (kk : AW p l e R s m args below meth c VV G nL (x_hC S tl) cells slots Q (pc + 1) lv (.int (S.2.1 2 j) :: r)) : AW p l e R s m args below meth c VV G nL (x_hC S tl) cells slots Q pc lv (.int i :: .ref 134 :: r) :=
  AW.iald X rfl rfl hi hj (by decide) hd kk
theorem AW.cs2 (X : ax_X p m meth c s args VV G cc nL own pl ret) {x : Int32} (hi : i = nI j) (hj : j < 4) (hd : decode cc pc = .ok (.iastore, 1)) (kk : AW p l e R s m args below meth c VV G nL (x_hC (x_a S 2 j x) tl) cells slots Q (pc + 1) lv r) : AW p l e R s m args below meth c VV G nL (x_hC S tl) cells slots Q pc lv (.int x :: .int i :: .ref 134 :: r) :=
  AW.iast X rfl rfl (by decide) hi hj (by decide) hd (AW.eq (h' := x_hC (x_a S 2 j x) tl) rfl kk)
theorem AW.cl3 (X : ax_X p m meth c s args VV G cc nL own pl ret) (hi : i = nI j) (hj : j < 4) (hd : decode cc pc = .ok (.iaload, 1)) (kk : AW p l e R s m args below meth c VV G nL (x_hC S tl) cells slots Q (pc + 1) lv (.int (S.2.1 3 j) :: r)) : AW p l e R s m args below meth c VV G nL (x_hC S tl) cells slots Q pc lv (.int i :: .ref 135 :: r) :=
  AW.iald X rfl rfl hi hj (by decide) hd kk
theorem AW.cs3 (X : ax_X p m meth c s args VV G cc nL own pl ret) {x : Int32} (hi : i = nI j) (hj : j < 4) (hd : decode cc pc = .ok (.iastore, 1)) (kk : AW p l e R s m args below meth c VV G nL (x_hC (x_a S 3 j x) tl) cells slots Q (pc + 1) lv r) : AW p l e R s m args below meth c VV G nL (x_hC S tl) cells slots Q pc lv (.int x :: .int i :: .ref 135 :: r) :=
  AW.iast X rfl rfl (by decide) hi hj (by decide) hd (AW.eq (h' := x_hC (x_a S 3 j x) tl) rfl kk)
theorem AW.cl4 (X : ax_X p m meth c s args VV G cc nL own pl ret) (hi : i = nI j) (hj : j < 4) (hd : decode cc pc = .ok (.iaload, 1)) (kk : AW p l e R s m args below meth c VV G nL (x_hC S tl) cells slots Q (pc + 1) lv (.int (S.2.1 4 j) :: r)) : AW p l e R s m args below meth c VV G nL (x_hC S tl) cells slots Q pc lv (.int i :: .ref 136 :: r) :=
  AW.iald X rfl rfl hi hj (by decide) hd kk
theorem AW.cs4 (X : ax_X p m meth c s args VV G cc nL own pl ret) {x : Int32} (hi : i = nI j) (hj : j < 4) (hd : decode cc pc = .ok (.iastore, 1)) (kk : AW p l e R s m args below meth c VV G nL (x_hC (x_a S 4 j x) tl) cells slots Q (pc + 1) lv r) : AW p l e R s m args below meth c VV G nL (x_hC S tl) cells slots Q pc lv (.int x :: .int i :: .ref 136 :: r) :=
  AW.iast X rfl rfl (by decide) hi hj (by decide) hd (AW.eq (h' := x_hC (x_a S 4 j x) tl) rfl kk)
theorem AW.cl5 (X : ax_X p m meth c s args VV G cc nL own pl ret) (hi : i = nI j) (hj : j < 400) (hd : decode cc pc = .ok (.iaload, 1)) (kk : AW p l e R s m args below meth c VV G nL (x_hC S tl) cells slots Q (pc + 1) lv (.int (S.2.1 5 j) :: r)) : AW p l e R s m args below meth c VV G nL (x_hC S tl) cells slots Q pc lv (.int i :: .ref 140 :: r) :=
  AW.iald X rfl rfl hi hj (by decide) hd kk
theorem AW.cs5 (X : ax_X p m meth c s args VV G cc nL own pl ret) {x : Int32} (hi : i = nI j) (hj : j < 400) (hd : decode cc pc = .ok (.iastore, 1)) (kk : AW p l e R s m args below meth c VV G nL (x_hC (x_a S 5 j x) tl) cells slots Q (pc + 1) lv r) : AW p l e R s m args below meth c VV G nL (x_hC S tl) cells slots Q pc lv (.int x :: .int i :: .ref 140 :: r) :=
  AW.iast X rfl rfl (by decide) hi hj (by decide) hd (AW.eq (h' := x_hC (x_a S 5 j x) tl) rfl kk)
theorem AW.cl6 (X : ax_X p m meth c s args VV G cc nL own pl ret) (hi : i = nI j) (hj : j < 400) (hd : decode cc pc = .ok (.iaload, 1)) (kk : AW p l e R s m args below meth c VV G nL (x_hC S tl) cells slots Q (pc + 1) lv (.int (S.2.1 6 j) :: r)) : AW p l e R s m args below meth c VV G nL (x_hC S tl) cells slots Q pc lv (.int i :: .ref 141 :: r) :=
  AW.iald X rfl rfl hi hj (by decide) hd kk
theorem AW.cs6 (X : ax_X p m meth c s args VV G cc nL own pl ret) {x : Int32} (hi : i = nI j) (hj : j < 400) (hd : decode cc pc = .ok (.iastore, 1)) (kk : AW p l e R s m args below meth c VV G nL (x_hC (x_a S 6 j x) tl) cells slots Q (pc + 1) lv r) : AW p l e R s m args below meth c VV G nL (x_hC S tl) cells slots Q pc lv (.int x :: .int i :: .ref 141 :: r) :=
  AW.iast X rfl rfl (by decide) hi hj (by decide) hd (AW.eq (h' := x_hC (x_a S 6 j x) tl) rfl kk)
theorem AW.cl7 (X : ax_X p m meth c s args VV G cc nL own pl ret) (hi : i = nI j) (hj : j < 400) (hd : decode cc pc = .ok (.iaload, 1)) (kk : AW p l e R s m args below meth c VV G nL (x_hC S tl) cells slots Q (pc + 1) lv (.int (S.2.1 7 j) :: r)) : AW p l e R s m args below meth c VV G nL (x_hC S tl) cells slots Q pc lv (.int i :: .ref 142 :: r) :=
  AW.iald X rfl rfl hi hj (by decide) hd kk
theorem AW.cs7 (X : ax_X p m meth c s args VV G cc nL own pl ret) {x : Int32} (hi : i = nI j) (hj : j < 400) (hd : decode cc pc = .ok (.iastore, 1)) (kk : AW p l e R s m args below meth c VV G nL (x_hC (x_a S 7 j x) tl) cells slots Q (pc + 1) lv r) : AW p l e R s m args below meth c VV G nL (x_hC S tl) cells slots Q pc lv (.int x :: .int i :: .ref 142 :: r) :=
  AW.iast X rfl rfl (by decide) hi hj (by decide) hd (AW.eq (h' := x_hC (x_a S 7 j x) tl) rfl kk)
theorem AW.cl8 (X : ax_X p m meth c s args VV G cc nL own pl ret) (hi : i = nI j) (hj : j < 13) (hd : decode cc pc = .ok (.iaload, 1)) (kk : AW p l e R s m args below meth c VV G nL (x_hC S tl) cells slots Q (pc + 1) lv (.int (S.2.1 8 j) :: r)) : AW p l e R s m args below meth c VV G nL (x_hC S tl) cells slots Q pc lv (.int i :: .ref 143 :: r) :=
  AW.iald X rfl rfl hi hj (by decide) hd kk
theorem AW.cs8 (X : ax_X p m meth c s args VV G cc nL own pl ret) {x : Int32} (hi : i = nI j) (hj : j < 13) (hd : decode cc pc = .ok (.iastore, 1)) (kk : AW p l e R s m args below meth c VV G nL (x_hC (x_a S 8 j x) tl) cells slots Q (pc + 1) lv r) : AW p l e R s m args below meth c VV G nL (x_hC S tl) cells slots Q pc lv (.int x :: .int i :: .ref 143 :: r) :=
  AW.iast X rfl rfl (by decide) hi hj (by decide) hd (AW.eq (h' := x_hC (x_a S 8 j x) tl) rfl kk)
theorem AW.cl9 (X : ax_X p m meth c s args VV G cc nL own pl ret) (hi : i = nI j) (hj : j < 13) (hd : decode cc pc = .ok (.iaload, 1)) (kk : AW p l e R s m args below meth c VV G nL (x_hC S tl) cells slots Q (pc + 1) lv (.int (S.2.1 9 j) :: r)) : AW p l e R s m args below meth c VV G nL (x_hC S tl) cells slots Q pc lv (.int i :: .ref 144 :: r) :=
  AW.iald X rfl rfl hi hj (by decide) hd kk
theorem AW.cs9 (X : ax_X p m meth c s args VV G cc nL own pl ret) {x : Int32} (hi : i = nI j) (hj : j < 13) (hd : decode cc pc = .ok (.iastore, 1)) (kk : AW p l e R s m args below meth c VV G nL (x_hC (x_a S 9 j x) tl) cells slots Q (pc + 1) lv r) : AW p l e R s m args below meth c VV G nL (x_hC S tl) cells slots Q pc lv (.int x :: .int i :: .ref 144 :: r) :=
  AW.iast X rfl rfl (by decide) hi hj (by decide) hd (AW.eq (h' := x_hC (x_a S 9 j x) tl) rfl kk)
theorem AW.cl10 (X : ax_X p m meth c s args VV G cc nL own pl ret) (hi : i = nI j) (hj : j < 13) (hd : decode cc pc = .ok (.iaload, 1)) (kk : AW p l e R s m args below meth c VV G nL (x_hC S tl) cells slots Q (pc + 1) lv (.int (S.2.1 10 j) :: r)) : AW p l e R s m args below meth c VV G nL (x_hC S tl) cells slots Q pc lv (.int i :: .ref 145 :: r) :=
  AW.iald X rfl rfl hi hj (by decide) hd kk
theorem AW.cs10 (X : ax_X p m meth c s args VV G cc nL own pl ret) {x : Int32} (hi : i = nI j) (hj : j < 13) (hd : decode cc pc = .ok (.iastore, 1)) (kk : AW p l e R s m args below meth c VV G nL (x_hC (x_a S 10 j x) tl) cells slots Q (pc + 1) lv r) : AW p l e R s m args below meth c VV G nL (x_hC S tl) cells slots Q pc lv (.int x :: .int i :: .ref 145 :: r) :=
  AW.iast X rfl rfl (by decide) hi hj (by decide) hd (AW.eq (h' := x_hC (x_a S 10 j x) tl) rfl kk)
theorem AW.cl11 (X : ax_X p m meth c s args VV G cc nL own pl ret) (hi : i = nI j) (hj : j < 13) (hd : decode cc pc = .ok (.iaload, 1)) (kk : AW p l e R s m args below meth c VV G nL (x_hC S tl) cells slots Q (pc + 1) lv (.int (S.2.1 11 j) :: r)) : AW p l e R s m args below meth c VV G nL (x_hC S tl) cells slots Q pc lv (.int i :: .ref 146 :: r) :=
  AW.iald X rfl rfl hi hj (by decide) hd kk
theorem AW.cs11 (X : ax_X p m meth c s args VV G cc nL own pl ret) {x : Int32} (hi : i = nI j) (hj : j < 13) (hd : decode cc pc = .ok (.iastore, 1)) (kk : AW p l e R s m args below meth c VV G nL (x_hC (x_a S 11 j x) tl) cells slots Q (pc + 1) lv r) : AW p l e R s m args below meth c VV G nL (x_hC S tl) cells slots Q pc lv (.int x :: .int i :: .ref 146 :: r) :=
  AW.iast X rfl rfl (by decide) hi hj (by decide) hd (AW.eq (h' := x_hC (x_a S 11 j x) tl) rfl kk)
theorem AW.cl12 (X : ax_X p m meth c s args VV G cc nL own pl ret) (hi : i = nI j) (hj : j < 60) (hd : decode cc pc = .ok (.iaload, 1)) (kk : AW p l e R s m args below meth c VV G nL (x_hC S tl) cells slots Q (pc + 1) lv (.int (S.2.1 12 j) :: r)) : AW p l e R s m args below meth c VV G nL (x_hC S tl) cells slots Q pc lv (.int i :: .ref 148 :: r) :=
  AW.iald X rfl rfl hi hj (by decide) hd kk
theorem AW.cs12 (X : ax_X p m meth c s args VV G cc nL own pl ret) {x : Int32} (hi : i = nI j) (hj : j < 60) (hd : decode cc pc = .ok (.iastore, 1)) (kk : AW p l e R s m args below meth c VV G nL (x_hC (x_a S 12 j x) tl) cells slots Q (pc + 1) lv r) : AW p l e R s m args below meth c VV G nL (x_hC S tl) cells slots Q pc lv (.int x :: .int i :: .ref 148 :: r) :=
  AW.iast X rfl rfl (by decide) hi hj (by decide) hd (AW.eq (h' := x_hC (x_a S 12 j x) tl) rfl kk)
theorem AW.cl13 (X : ax_X p m meth c s args VV G cc nL own pl ret) (hi : i = nI j) (hj : j < 60) (hd : decode cc pc = .ok (.baload, 1)) (kk : AW p l e R s m args below meth c VV G nL (x_hC S tl) cells slots Q (pc + 1) lv (.int (S.2.1 13 j) :: r)) : AW p l e R s m args below meth c VV G nL (x_hC S tl) cells slots Q pc lv (.int i :: .ref 149 :: r) :=
  AW.zald X rfl rfl hi hj (by decide) hd kk
theorem AW.cs13 (X : ax_X p m meth c s args VV G cc nL own pl ret) {x : Int32} (hi : i = nI j) (hj : j < 60) (hd : decode cc pc = .ok (.bastore, 1)) (kk : AW p l e R s m args below meth c VV G nL (x_hC (x_a S 13 j (vp_nar .boolean x)) tl) cells slots Q (pc + 1) lv r) : AW p l e R s m args below meth c VV G nL (x_hC S tl) cells slots Q pc lv (.int x :: .int i :: .ref 149 :: r) :=
  AW.zast X rfl rfl (by decide) hi hj (by decide) hd (AW.eq (h' := x_hC (x_a S 13 j (vp_nar .boolean x)) tl) rfl kk)
theorem AW.ml0 (X : ax_X p m meth c s args VV G cc nL own pl ret) (hi : i = nI j) (hj : j < 8192) (hd : decode cc pc = .ok (.baload, 1)) (kk : AW p l e R s m args below meth c VV G nL (x_hM S M tl) cells slots Q (pc + 1) lv (.int (M.2.1 0 j) :: r)) : AW p l e R s m args below meth c VV G nL (x_hM S M tl) cells slots Q pc lv (.int i :: .ref 151 :: r) :=
  AW.bald X rfl rfl hi hj (by decide) hd kk
theorem AW.ms0 (X : ax_X p m meth c s args VV G cc nL own pl ret) {x : Int32} (hi : i = nI j) (hj : j < 8192) (hd : decode cc pc = .ok (.bastore, 1)) (kk : AW p l e R s m args below meth c VV G nL (x_hM S (y_a M 0 j (vp_nar .byte x)) tl) cells slots Q (pc + 1) lv r) : AW p l e R s m args below meth c VV G nL (x_hM S M tl) cells slots Q pc lv (.int x :: .int i :: .ref 151 :: r) :=
  AW.bast X rfl rfl (by decide) hi hj (by decide) hd (AW.eq (h' := x_hM S (y_a M 0 j (vp_nar .byte x)) tl) rfl kk)
theorem AW.ml1 (X : ax_X p m meth c s args VV G cc nL own pl ret) (hi : i = nI j) (hj : j < 96) (hd : decode cc pc = .ok (.iaload, 1)) (kk : AW p l e R s m args below meth c VV G nL (x_hM S M tl) cells slots Q (pc + 1) lv (.int (M.2.1 1 j) :: r)) : AW p l e R s m args below meth c VV G nL (x_hM S M tl) cells slots Q pc lv (.int i :: .ref 152 :: r) :=
  AW.iald X rfl rfl hi hj (by decide) hd kk
theorem AW.ms1 (X : ax_X p m meth c s args VV G cc nL own pl ret) {x : Int32} (hi : i = nI j) (hj : j < 96) (hd : decode cc pc = .ok (.iastore, 1)) (kk : AW p l e R s m args below meth c VV G nL (x_hM S (y_a M 1 j x) tl) cells slots Q (pc + 1) lv r) : AW p l e R s m args below meth c VV G nL (x_hM S M tl) cells slots Q pc lv (.int x :: .int i :: .ref 152 :: r) :=
  AW.iast X rfl rfl (by decide) hi hj (by decide) hd (AW.eq (h' := x_hM S (y_a M 1 j x) tl) rfl kk)
theorem AW.ml2 (X : ax_X p m meth c s args VV G cc nL own pl ret) (hi : i = nI j) (hj : j < 4) (hd : decode cc pc = .ok (.iaload, 1)) (kk : AW p l e R s m args below meth c VV G nL (x_hM S M tl) cells slots Q (pc + 1) lv (.int (M.2.1 2 j) :: r)) : AW p l e R s m args below meth c VV G nL (x_hM S M tl) cells slots Q pc lv (.int i :: .ref 153 :: r) :=
  AW.iald X rfl rfl hi hj (by decide) hd kk
theorem AW.ms2 (X : ax_X p m meth c s args VV G cc nL own pl ret) {x : Int32} (hi : i = nI j) (hj : j < 4) (hd : decode cc pc = .ok (.iastore, 1)) (kk : AW p l e R s m args below meth c VV G nL (x_hM S (y_a M 2 j x) tl) cells slots Q (pc + 1) lv r) : AW p l e R s m args below meth c VV G nL (x_hM S M tl) cells slots Q pc lv (.int x :: .int i :: .ref 153 :: r) :=
  AW.iast X rfl rfl (by decide) hi hj (by decide) hd (AW.eq (h' := x_hM S (y_a M 2 j x) tl) rfl kk)
theorem AW.ml3 (X : ax_X p m meth c s args VV G cc nL own pl ret) (hi : i = nI j) (hj : j < 4) (hd : decode cc pc = .ok (.iaload, 1)) (kk : AW p l e R s m args below meth c VV G nL (x_hM S M tl) cells slots Q (pc + 1) lv (.int (M.2.1 3 j) :: r)) : AW p l e R s m args below meth c VV G nL (x_hM S M tl) cells slots Q pc lv (.int i :: .ref 154 :: r) :=
  AW.iald X rfl rfl hi hj (by decide) hd kk
theorem AW.ms3 (X : ax_X p m meth c s args VV G cc nL own pl ret) {x : Int32} (hi : i = nI j) (hj : j < 4) (hd : decode cc pc = .ok (.iastore, 1)) (kk : AW p l e R s m args below meth c VV G nL (x_hM S (y_a M 3 j x) tl) cells slots Q (pc + 1) lv r) : AW p l e R s m args below meth c VV G nL (x_hM S M tl) cells slots Q pc lv (.int x :: .int i :: .ref 154 :: r) :=
  AW.iast X rfl rfl (by decide) hi hj (by decide) hd (AW.eq (h' := x_hM S (y_a M 3 j x) tl) rfl kk)
theorem AW.ml4 (X : ax_X p m meth c s args VV G cc nL own pl ret) (hi : i = nI j) (hj : j < 24) (hd : decode cc pc = .ok (.iaload, 1)) (kk : AW p l e R s m args below meth c VV G nL (x_hM S M tl) cells slots Q (pc + 1) lv (.int (M.2.1 4 j) :: r)) : AW p l e R s m args below meth c VV G nL (x_hM S M tl) cells slots Q pc lv (.int i :: .ref 155 :: r) :=
  AW.iald X rfl rfl hi hj (by decide) hd kk
theorem AW.ms4 (X : ax_X p m meth c s args VV G cc nL own pl ret) {x : Int32} (hi : i = nI j) (hj : j < 24) (hd : decode cc pc = .ok (.iastore, 1)) (kk : AW p l e R s m args below meth c VV G nL (x_hM S (y_a M 4 j x) tl) cells slots Q (pc + 1) lv r) : AW p l e R s m args below meth c VV G nL (x_hM S M tl) cells slots Q pc lv (.int x :: .int i :: .ref 155 :: r) :=
  AW.iast X rfl rfl (by decide) hi hj (by decide) hd (AW.eq (h' := x_hM S (y_a M 4 j x) tl) rfl kk)
theorem AW.ml5 (X : ax_X p m meth c s args VV G cc nL own pl ret) (hi : i = nI j) (hj : j < 24) (hd : decode cc pc = .ok (.iaload, 1)) (kk : AW p l e R s m args below meth c VV G nL (x_hM S M tl) cells slots Q (pc + 1) lv (.int (M.2.1 5 j) :: r)) : AW p l e R s m args below meth c VV G nL (x_hM S M tl) cells slots Q pc lv (.int i :: .ref 156 :: r) :=
  AW.iald X rfl rfl hi hj (by decide) hd kk
theorem AW.ms5 (X : ax_X p m meth c s args VV G cc nL own pl ret) {x : Int32} (hi : i = nI j) (hj : j < 24) (hd : decode cc pc = .ok (.iastore, 1)) (kk : AW p l e R s m args below meth c VV G nL (x_hM S (y_a M 5 j x) tl) cells slots Q (pc + 1) lv r) : AW p l e R s m args below meth c VV G nL (x_hM S M tl) cells slots Q pc lv (.int x :: .int i :: .ref 156 :: r) :=
  AW.iast X rfl rfl (by decide) hi hj (by decide) hd (AW.eq (h' := x_hM S (y_a M 5 j x) tl) rfl kk)
theorem AW.ml6 (X : ax_X p m meth c s args VV G cc nL own pl ret) (hi : i = nI j) (hj : j < 24) (hd : decode cc pc = .ok (.iaload, 1)) (kk : AW p l e R s m args below meth c VV G nL (x_hM S M tl) cells slots Q (pc + 1) lv (.int (M.2.1 6 j) :: r)) : AW p l e R s m args below meth c VV G nL (x_hM S M tl) cells slots Q pc lv (.int i :: .ref 157 :: r) :=
  AW.iald X rfl rfl hi hj (by decide) hd kk
theorem AW.ms6 (X : ax_X p m meth c s args VV G cc nL own pl ret) {x : Int32} (hi : i = nI j) (hj : j < 24) (hd : decode cc pc = .ok (.iastore, 1)) (kk : AW p l e R s m args below meth c VV G nL (x_hM S (y_a M 6 j x) tl) cells slots Q (pc + 1) lv r) : AW p l e R s m args below meth c VV G nL (x_hM S M tl) cells slots Q pc lv (.int x :: .int i :: .ref 157 :: r) :=
  AW.iast X rfl rfl (by decide) hi hj (by decide) hd (AW.eq (h' := x_hM S (y_a M 6 j x) tl) rfl kk)
theorem AW.ml7 (X : ax_X p m meth c s args VV G cc nL own pl ret) (hi : i = nI j) (hj : j < 2304) (hd : decode cc pc = .ok (.iaload, 1)) (kk : AW p l e R s m args below meth c VV G nL (x_hM S M tl) cells slots Q (pc + 1) lv (.int (M.2.1 7 j) :: r)) : AW p l e R s m args below meth c VV G nL (x_hM S M tl) cells slots Q pc lv (.int i :: .ref 158 :: r) :=
  AW.iald X rfl rfl hi hj (by decide) hd kk
theorem AW.ms7 (X : ax_X p m meth c s args VV G cc nL own pl ret) {x : Int32} (hi : i = nI j) (hj : j < 2304) (hd : decode cc pc = .ok (.iastore, 1)) (kk : AW p l e R s m args below meth c VV G nL (x_hM S (y_a M 7 j x) tl) cells slots Q (pc + 1) lv r) : AW p l e R s m args below meth c VV G nL (x_hM S M tl) cells slots Q pc lv (.int x :: .int i :: .ref 158 :: r) :=
  AW.iast X rfl rfl (by decide) hi hj (by decide) hd (AW.eq (h' := x_hM S (y_a M 7 j x) tl) rfl kk)
theorem AW.ml8 (X : ax_X p m meth c s args VV G cc nL own pl ret) (hi : i = nI j) (hj : j < 24) (hd : decode cc pc = .ok (.iaload, 1)) (kk : AW p l e R s m args below meth c VV G nL (x_hM S M tl) cells slots Q (pc + 1) lv (.int (M.2.1 8 j) :: r)) : AW p l e R s m args below meth c VV G nL (x_hM S M tl) cells slots Q pc lv (.int i :: .ref 159 :: r) :=
  AW.iald X rfl rfl hi hj (by decide) hd kk
theorem AW.ms8 (X : ax_X p m meth c s args VV G cc nL own pl ret) {x : Int32} (hi : i = nI j) (hj : j < 24) (hd : decode cc pc = .ok (.iastore, 1)) (kk : AW p l e R s m args below meth c VV G nL (x_hM S (y_a M 8 j x) tl) cells slots Q (pc + 1) lv r) : AW p l e R s m args below meth c VV G nL (x_hM S M tl) cells slots Q pc lv (.int x :: .int i :: .ref 159 :: r) :=
  AW.iast X rfl rfl (by decide) hi hj (by decide) hd (AW.eq (h' := x_hM S (y_a M 8 j x) tl) rfl kk)
theorem AW.ml9 (X : ax_X p m meth c s args VV G cc nL own pl ret) (hi : i = nI j) (hj : j < 196608) (hd : decode cc pc = .ok (.baload, 1)) (kk : AW p l e R s m args below meth c VV G nL (x_hM S M tl) cells slots Q (pc + 1) lv (.int (M.2.1 9 j) :: r)) : AW p l e R s m args below meth c VV G nL (x_hM S M tl) cells slots Q pc lv (.int i :: .ref 160 :: r) :=
  AW.bald X rfl rfl hi hj (by decide) hd kk
theorem AW.ms9 (X : ax_X p m meth c s args VV G cc nL own pl ret) {x : Int32} (hi : i = nI j) (hj : j < 196608) (hd : decode cc pc = .ok (.bastore, 1)) (kk : AW p l e R s m args below meth c VV G nL (x_hM S (y_a M 9 j (vp_nar .byte x)) tl) cells slots Q (pc + 1) lv r) : AW p l e R s m args below meth c VV G nL (x_hM S M tl) cells slots Q pc lv (.int x :: .int i :: .ref 160 :: r) :=
  AW.bast X rfl rfl (by decide) hi hj (by decide) hd (AW.eq (h' := x_hM S (y_a M 9 j (vp_nar .byte x)) tl) rfl kk)
theorem AW.ml10 (X : ax_X p m meth c s args VV G cc nL own pl ret) (hi : i = nI j) (hj : j < 4) (hd : decode cc pc = .ok (.iaload, 1)) (kk : AW p l e R s m args below meth c VV G nL (x_hM S M tl) cells slots Q (pc + 1) lv (.int (M.2.1 10 j) :: r)) : AW p l e R s m args below meth c VV G nL (x_hM S M tl) cells slots Q pc lv (.int i :: .ref 162 :: r) :=
  AW.iald X rfl rfl hi hj (by decide) hd kk
theorem AW.ms10 (X : ax_X p m meth c s args VV G cc nL own pl ret) {x : Int32} (hi : i = nI j) (hj : j < 4) (hd : decode cc pc = .ok (.iastore, 1)) (kk : AW p l e R s m args below meth c VV G nL (x_hM S (y_a M 10 j x) tl) cells slots Q (pc + 1) lv r) : AW p l e R s m args below meth c VV G nL (x_hM S M tl) cells slots Q pc lv (.int x :: .int i :: .ref 162 :: r) :=
  AW.iast X rfl rfl (by decide) hi hj (by decide) hd (AW.eq (h' := x_hM S (y_a M 10 j x) tl) rfl kk)
theorem AW.ml11 (X : ax_X p m meth c s args VV G cc nL own pl ret) (hi : i = nI j) (hj : j < 402) (hd : decode cc pc = .ok (.iaload, 1)) (kk : AW p l e R s m args below meth c VV G nL (x_hM S M tl) cells slots Q (pc + 1) lv (.int (M.2.1 11 j) :: r)) : AW p l e R s m args below meth c VV G nL (x_hM S M tl) cells slots Q pc lv (.int i :: .ref 165 :: r) :=
  AW.iald X rfl rfl hi hj (by decide) hd kk
theorem AW.ms11 (X : ax_X p m meth c s args VV G cc nL own pl ret) {x : Int32} (hi : i = nI j) (hj : j < 402) (hd : decode cc pc = .ok (.iastore, 1)) (kk : AW p l e R s m args below meth c VV G nL (x_hM S (y_a M 11 j x) tl) cells slots Q (pc + 1) lv r) : AW p l e R s m args below meth c VV G nL (x_hM S M tl) cells slots Q pc lv (.int x :: .int i :: .ref 165 :: r) :=
  AW.iast X rfl rfl (by decide) hi hj (by decide) hd (AW.eq (h' := x_hM S (y_a M 11 j x) tl) rfl kk)
theorem AW.ml12 (X : ax_X p m meth c s args VV G cc nL own pl ret) (hi : i = nI j) (hj : j < 402) (hd : decode cc pc = .ok (.iaload, 1)) (kk : AW p l e R s m args below meth c VV G nL (x_hM S M tl) cells slots Q (pc + 1) lv (.int (M.2.1 12 j) :: r)) : AW p l e R s m args below meth c VV G nL (x_hM S M tl) cells slots Q pc lv (.int i :: .ref 166 :: r) :=
  AW.iald X rfl rfl hi hj (by decide) hd kk
theorem AW.ms12 (X : ax_X p m meth c s args VV G cc nL own pl ret) {x : Int32} (hi : i = nI j) (hj : j < 402) (hd : decode cc pc = .ok (.iastore, 1)) (kk : AW p l e R s m args below meth c VV G nL (x_hM S (y_a M 12 j x) tl) cells slots Q (pc + 1) lv r) : AW p l e R s m args below meth c VV G nL (x_hM S M tl) cells slots Q pc lv (.int x :: .int i :: .ref 166 :: r) :=
  AW.iast X rfl rfl (by decide) hi hj (by decide) hd (AW.eq (h' := x_hM S (y_a M 12 j x) tl) rfl kk)
theorem AW.ml13 (X : ax_X p m meth c s args VV G cc nL own pl ret) (hi : i = nI j) (hj : j < 60) (hd : decode cc pc = .ok (.baload, 1)) (kk : AW p l e R s m args below meth c VV G nL (x_hM S M tl) cells slots Q (pc + 1) lv (.int (M.2.1 13 j) :: r)) : AW p l e R s m args below meth c VV G nL (x_hM S M tl) cells slots Q pc lv (.int i :: .ref 168 :: r) :=
  AW.zald X rfl rfl hi hj (by decide) hd kk
theorem AW.ms13 (X : ax_X p m meth c s args VV G cc nL own pl ret) {x : Int32} (hi : i = nI j) (hj : j < 60) (hd : decode cc pc = .ok (.bastore, 1)) (kk : AW p l e R s m args below meth c VV G nL (x_hM S (y_a M 13 j (vp_nar .boolean x)) tl) cells slots Q (pc + 1) lv r) : AW p l e R s m args below meth c VV G nL (x_hM S M tl) cells slots Q pc lv (.int x :: .int i :: .ref 168 :: r) :=
  AW.zast X rfl rfl (by decide) hi hj (by decide) hd (AW.eq (h' := x_hM S (y_a M 13 j (vp_nar .boolean x)) tl) rfl kk)
theorem AW.ml14 (X : ax_X p m meth c s args VV G cc nL own pl ret) (hi : i = nI j) (hj : j < 20) (hd : decode cc pc = .ok (.iaload, 1)) (kk : AW p l e R s m args below meth c VV G nL (x_hM S M tl) cells slots Q (pc + 1) lv (.int (M.2.1 14 j) :: r)) : AW p l e R s m args below meth c VV G nL (x_hM S M tl) cells slots Q pc lv (.int i :: .ref 169 :: r) :=
  AW.iald X rfl rfl hi hj (by decide) hd kk
theorem AW.ms14 (X : ax_X p m meth c s args VV G cc nL own pl ret) {x : Int32} (hi : i = nI j) (hj : j < 20) (hd : decode cc pc = .ok (.iastore, 1)) (kk : AW p l e R s m args below meth c VV G nL (x_hM S (y_a M 14 j x) tl) cells slots Q (pc + 1) lv r) : AW p l e R s m args below meth c VV G nL (x_hM S M tl) cells slots Q pc lv (.int x :: .int i :: .ref 169 :: r) :=
  AW.iast X rfl rfl (by decide) hi hj (by decide) hd (AW.eq (h' := x_hM S (y_a M 14 j x) tl) rfl kk)
theorem AW.mll0 (X : ax_X p m meth c s args VV G cc nL own pl ret) (hi : i = nI j) (hj : j < 8) (hd : decode cc pc = .ok (.laload, 1)) (kk : AW p l e R s m args below meth c VV G nL (x_hM S M tl) cells slots Q (pc + 1) lv (.long (M.2.2 0 j) :: r)) : AW p l e R s m args below meth c VV G nL (x_hM S M tl) cells slots Q pc lv (.int i :: .ref 161 :: r) :=
  AW.lald X rfl rfl hi hj (by decide) hd kk
theorem AW.msl0 (X : ax_X p m meth c s args VV G cc nL own pl ret) {x : Int64} (hi : i = nI j) (hj : j < 8) (hd : decode cc pc = .ok (.lastore, 1)) (kk : AW p l e R s m args below meth c VV G nL (x_hM S (y_l M 0 j x) tl) cells slots Q (pc + 1) lv r) : AW p l e R s m args below meth c VV G nL (x_hM S M tl) cells slots Q pc lv (.long x :: .int i :: .ref 161 :: r) :=
  AW.last X rfl rfl (by decide) hi hj (by decide) hd (AW.eq (h' := x_hM S (y_l M 0 j x) tl) rfl kk)
theorem AW.mll1 (X : ax_X p m meth c s args VV G cc nL own pl ret) (hi : i = nI j) (hj : j < 4) (hd : decode cc pc = .ok (.laload, 1)) (kk : AW p l e R s m args below meth c VV G nL (x_hM S M tl) cells slots Q (pc + 1) lv (.long (M.2.2 1 j) :: r)) : AW p l e R s m args below meth c VV G nL (x_hM S M tl) cells slots Q pc lv (.int i :: .ref 163 :: r) :=
  AW.lald X rfl rfl hi hj (by decide) hd kk
theorem AW.msl1 (X : ax_X p m meth c s args VV G cc nL own pl ret) {x : Int64} (hi : i = nI j) (hj : j < 4) (hd : decode cc pc = .ok (.lastore, 1)) (kk : AW p l e R s m args below meth c VV G nL (x_hM S (y_l M 1 j x) tl) cells slots Q (pc + 1) lv r) : AW p l e R s m args below meth c VV G nL (x_hM S M tl) cells slots Q pc lv (.long x :: .int i :: .ref 163 :: r) :=
  AW.last X rfl rfl (by decide) hi hj (by decide) hd (AW.eq (h' := x_hM S (y_l M 1 j x) tl) rfl kk)
theorem AW.mll2 (X : ax_X p m meth c s args VV G cc nL own pl ret) (hi : i = nI j) (hj : j < 4) (hd : decode cc pc = .ok (.laload, 1)) (kk : AW p l e R s m args below meth c VV G nL (x_hM S M tl) cells slots Q (pc + 1) lv (.long (M.2.2 2 j) :: r)) : AW p l e R s m args below meth c VV G nL (x_hM S M tl) cells slots Q pc lv (.int i :: .ref 164 :: r) :=
  AW.lald X rfl rfl hi hj (by decide) hd kk
theorem AW.msl2 (X : ax_X p m meth c s args VV G cc nL own pl ret) {x : Int64} (hi : i = nI j) (hj : j < 4) (hd : decode cc pc = .ok (.lastore, 1)) (kk : AW p l e R s m args below meth c VV G nL (x_hM S (y_l M 2 j x) tl) cells slots Q (pc + 1) lv r) : AW p l e R s m args below meth c VV G nL (x_hM S M tl) cells slots Q pc lv (.long x :: .int i :: .ref 164 :: r) :=
  AW.last X rfl rfl (by decide) hi hj (by decide) hd (AW.eq (h' := x_hM S (y_l M 2 j x) tl) rfl kk)
theorem AW.mll3 (X : ax_X p m meth c s args VV G cc nL own pl ret) (hi : i = nI j) (hj : j < 60) (hd : decode cc pc = .ok (.laload, 1)) (kk : AW p l e R s m args below meth c VV G nL (x_hM S M tl) cells slots Q (pc + 1) lv (.long (M.2.2 3 j) :: r)) : AW p l e R s m args below meth c VV G nL (x_hM S M tl) cells slots Q pc lv (.int i :: .ref 167 :: r) :=
  AW.lald X rfl rfl hi hj (by decide) hd kk
theorem AW.msl3 (X : ax_X p m meth c s args VV G cc nL own pl ret) {x : Int64} (hi : i = nI j) (hj : j < 60) (hd : decode cc pc = .ok (.lastore, 1)) (kk : AW p l e R s m args below meth c VV G nL (x_hM S (y_l M 3 j x) tl) cells slots Q (pc + 1) lv r) : AW p l e R s m args below meth c VV G nL (x_hM S M tl) cells slots Q pc lv (.long x :: .int i :: .ref 167 :: r) :=
  AW.last X rfl rfl (by decide) hi hj (by decide) hd (AW.eq (h' := x_hM S (y_l M 3 j x) tl) rfl kk)
end AXSP
end
section
/-! numbers: iZ z, lZ z: the int, the long of a whole number z -/
def iZ (z : Int) : Int32 := Int32.ofInt z
def lZ (z : Int) : Int64 := Int64.ofInt z
theorem iZ_of (x : Int32) : x = iZ x.toInt := (Int32.ofInt_toInt x).symm
theorem lZ_of (x : Int64) : x = lZ x.toInt := (Int64.ofInt_toInt x).symm
theorem iZ_n (n : Nat) : nI n = iZ n := Int32.ofInt_eq_ofNat.symm
theorem lZ_n (n : Nat) : lN n = lZ n := Int64.ofInt_eq_ofNat.symm
theorem iZ_add (a b : Int) : iZ a + iZ b = iZ (a + b) := (Int32.ofInt_add a b).symm
theorem iZ_sub (a b : Int) : iZ a - iZ b = iZ (a - b) := (Int32.ofInt_sub a b).symm
theorem iZ_mul (a b : Int) : iZ a * iZ b = iZ (a * b) := (Int32.ofInt_mul a b).symm
theorem iZ_neg (a : Int) : -iZ a = iZ (-a) := (Int32.ofInt_neg a).symm
theorem lZ_add (a b : Int) : lZ a + lZ b = lZ (a + b) := (Int64.ofInt_add a b).symm
theorem lZ_sub (a b : Int) : lZ a - lZ b = lZ (a - b) := (Int64.ofInt_sub a b).symm
theorem lZ_mul (a b : Int) : lZ a * lZ b = lZ (a * b) := (Int64.ofInt_mul a b).symm
theorem lZ_neg (a : Int) : -lZ a = lZ (-a) := (Int64.ofInt_neg a).symm
def zI (z : Int) : Prop := -2147483648 ≤ z ∧ z < 2147483648
def zL (z : Int) : Prop := -9223372036854775808 ≤ z ∧ z < 9223372036854775808
theorem iZ_t {z : Int} (h : zI z) : (iZ z).toInt = z := Int32.toInt_ofInt_of_le (by have := h.1; omega) (by have := h.2; omega)
theorem lZ_t {z : Int} (h : zL z) : (lZ z).toInt = z := Int64.toInt_ofInt_of_le (by have := h.1; omega) (by have := h.2; omega)
theorem zI_i (x : Int32) : zI x.toInt := ⟨by have := x.le_toInt; omega, by have := x.toInt_lt; omega⟩
theorem zL_l (x : Int64) : zL x.toInt := ⟨by have := x.le_toInt; omega, by have := x.toInt_lt; omega⟩
theorem iZ_le {a b : Int} (ha : zI a) (hb : zI b) : iZ a ≤ iZ b ↔ a ≤ b := by rw [Int32.le_iff_toInt_le, iZ_t ha, iZ_t hb]
theorem iZ_lt {a b : Int} (ha : zI a) (hb : zI b) : iZ a < iZ b ↔ a < b := by rw [Int32.lt_iff_toInt_lt, iZ_t ha, iZ_t hb]
theorem iZ_eq {a b : Int} (ha : zI a) (hb : zI b) : iZ a = iZ b ↔ a = b := by rw [← Int32.toInt_inj, iZ_t ha, iZ_t hb]
theorem lZ_le {a b : Int} (ha : zL a) (hb : zL b) : lZ a ≤ lZ b ↔ a ≤ b := by rw [Int64.le_iff_toInt_le, lZ_t ha, lZ_t hb]
theorem lZ_lt {a b : Int} (ha : zL a) (hb : zL b) : lZ a < lZ b ↔ a < b := by rw [Int64.lt_iff_toInt_lt, lZ_t ha, lZ_t hb]
theorem lZ_eq {a b : Int} (ha : zL a) (hb : zL b) : lZ a = lZ b ↔ a = b := by rw [← Int64.toInt_inj, lZ_t ha, lZ_t hb]
theorem iZ_l {z : Int} (h : zI z) : (iZ z).toInt64 = lZ z := Int64.toInt_inj.mp (by rw [Int32.toInt_toInt64, iZ_t h, lZ_t ⟨by have := h.1; omega, by have := h.2; omega⟩])
theorem lZ_i (z : Int) : (lZ z).toInt32 = iZ z := Int64.toInt32_ofInt
theorem i_l (x : Int32) : x.toInt64 = lZ x.toInt := by
  have h := iZ_l (zI_i x)
  rw [← iZ_of] at h
  exact h
theorem lZ_div {a b : Int} (ha : zL a) (hb : zL b) (hn : a ≠ -9223372036854775808 ∨ b ≠ -1) : lZ a / lZ b = lZ (a.tdiv b) := by
  apply Int64.toInt_inj.mp
  have hq : zL (a.tdiv b) := by
    rcases Int.lt_or_le b 2 with h2 | h2
    · rcases Int.lt_or_le (-2) b with h3 | h3
      · have : b = -1 ∨ b = 0 ∨ b = 1 := by omega
        rcases this with rfl | rfl | rfl
        · rw [Int.tdiv_neg, Int.tdiv_one]
          have := ha.1
          have := ha.2
          exact ⟨by omega, by omega⟩
        · rw [Int.tdiv_zero]; exact ⟨by decide, by decide⟩
        · rw [Int.tdiv_one]; exact ha
      · have h4 := Int.natAbs_tdiv_le_natAbs a b
        have := ha.1
        have := ha.2
        have h5 : (a.tdiv b).natAbs ≤ a.natAbs / 2 := by
          rw [Int.natAbs_tdiv]
          exact Nat.div_le_div_left (by omega) (by decide)
        exact ⟨by omega, by omega⟩
    · have := ha.1
      have := ha.2
      have h5 : (a.tdiv b).natAbs ≤ a.natAbs / 2 := by
        rw [Int.natAbs_tdiv]
        exact Nat.div_le_div_left (by omega) (by decide)
      exact ⟨by omega, by omega⟩
  rw [Int64.toInt_div, lZ_t ha, lZ_t hb, lZ_t hq, Int.bmod_def]
  have := hq.1
  have := hq.2
  omega
theorem lZ_c0 : (Int64.ofNat ((0 : Fin 2) : Nat)) = lZ 0 := by decide
theorem lZ_c1 : (Int64.ofNat ((1 : Fin 2) : Nat)) = lZ 1 := by decide
/-- a truth as an int -/
def bI (c : Bool) : Int32 := if c then 1 else 0
theorem bI_nar (c : Bool) : narrow .boolean (.int (bI c)) = .int (bI c) := by cases c <;> decide
theorem n_0 : narrow .boolean (.int (Int32.ofInt 0)) = .int (Int32.ofInt 0) := by decide
theorem n_1 : narrow .boolean (.int (Int32.ofInt 1)) = .int (Int32.ofInt 1) := by decide
theorem bI_t {c : Bool} (h : c = true) : Int32.ofInt 1 = bI c := by rw [h]; decide
theorem bI_f {c : Bool} (h : c = false) : Int32.ofInt 0 = bI c := by rw [h]; decide
theorem bI_0 (c : Bool) : bI c = 0 ↔ c = false := by cases c <;> decide
theorem bI_z (c : Bool) : bI c = 0 ↔ ¬ c = true := by cases c <;> decide
end
section
/-! contracts of the JDK's own methods -/
section AXC
variable {p : Program} {l : Launch} {e : Env} {R : Room} {s : State} {m : MethodId} {args : Array Value} {below : List Frame} {meth : Method} {c : Code} {V : ax_V} {G : ax_G} {cc : ByteArray} {nL : Nat} {own : String} {pl : ax_pool} {ret : Option FieldType} {cells slots : Nat} {Q : State → Prop}
variable {pc : Nat} {lv : List (Nat × Value)} {r : List Value} {h : List va_E} {a t n j : Nat} {i : Int32}
theorem AM.ofF {y : MethodName} {maxL d mc ms : Nat} {As : List Value} {Qa : Option Value → List va_E → Prop} (hy : plainFor y = true) (hG : GoodIn V.ts V.ts) (hF : ax_F V y.cls pl.1) (hPL : ax_PL V y.cls pl.2.1) (hini : pl.2.2 = true → y.name = "<init>") (hs : (lg_sl As).length ≤ maxL)
    (body : ∀ (p : Program) (e : Env) (s : State) (m : MethodId) (args : Array Value) (below : List Frame) (meth : Method) (c : Code), ax_X p m meth c s args V G cc maxL y.cls pl ret →
      AW p l e (ax_R d mc ms) s m args below meth c V G maxL h 0 0 (MQ below (ax_Q V G Qa) args s mc ms (fun q => G.bs ≤ q)) 0 (lv_args 0 As) []) : AM l V G y cc maxL ret d mc ms As h Qa := by
  intro hI
  refine va_MetF (cc := cc) (maxL := maxL) (ret := ret) hy rfl ?_
  intro p e s m args below meth c s₁ B hml hv
  obtain ⟨rfl, hK, hH⟩ := hv
  have hts := atoms_spec (ws := .code y cc maxL ret :: V.ts) B.pre
  have X : ax_X p m meth c s ((As.map (ax_v G.ph)).toArray) V G cc maxL y.cls pl ret := ⟨B.exec, B.bytes, hml, findClass_of_methodNamed B.named, fun w hw => hts w (List.mem_cons_of_mem _ hw), hK, hI, hF, hPL, hG, B.notSynchronized, B.returns, fun q => (name_of_methodNamed B.named B.method).1.trans (hini q)⟩
  have hl := lv_entry (As.map (ax_v G.ph)) (n := maxL) (by rw [ax_sl]; exact hs)
  rw [lg_entry_eq]
  generalize (lg_sl (As.map (ax_v G.ph)) ++ List.replicate (maxL - (lg_sl (As.map (ax_v G.ph))).length) Slot.unset).toArray = ls at hl ⊢
  rw [ax_args] at hl
  exact body p e s m _ below meth c X s.heap [] ls hH (fun q hq => by cases hq) hl
end AXC
theorem JMath_floorDiv_pf : plainFor JMath_floorDiv_y = true := by decide +kernel
theorem JMath_floorMod1_pf : plainFor JMath_floorMod1_y = true := by decide +kernel
theorem JMath_floorMod2_pf : plainFor JMath_floorMod2_y = true := by decide +kernel
theorem JMath_max1_pf : plainFor JMath_max1_y = true := by decide +kernel
theorem JMath_max2_pf : plainFor JMath_max2_y = true := by decide +kernel
theorem JMath_min1_pf : plainFor JMath_min1_y = true := by decide +kernel
theorem JMath_min2_pf : plainFor JMath_min2_y = true := by decide +kernel
theorem JMath_abs_pf : plainFor JMath_abs_y = true := by decide +kernel
theorem JArrays_copyOf1_pf : plainFor JArrays_copyOf1_y = true := by decide +kernel
theorem JArrays_copyOf2_pf : plainFor JArrays_copyOf2_y = true := by decide +kernel
theorem JString_length_pf : plainFor JString_length_y = true := by decide +kernel
theorem JString_charAt_pf : plainFor JString_charAt_y = true := by decide +kernel
theorem JEnum_ordinal_pf : plainFor JEnum_ordinal_y = true := by decide +kernel
theorem JString_coder_pf : plainFor JString_coder_y = true := by decide +kernel
theorem JString_isLatin1_pf : plainFor JString_isLatin1_y = true := by decide +kernel
theorem JStringLatin1_charAt_pf : plainFor JStringLatin1_charAt_y = true := by decide +kernel
theorem JString_checkIndex_pf : plainFor JString_checkIndex_y = true := by decide +kernel
theorem JPreconditions_checkIndex_pf : plainFor JPreconditions_checkIndex_y = true := by decide +kernel
end
section
/-! RULES: statics, texts, arrays of references, inherited and abstract methods, copies of arrays -/
section AXMO
variable {p : Program} {l : Launch} {e : Env} {R : Room} {s : State} {m : MethodId} {args : Array Value} {below : List Frame} {meth : Method} {c : Code} {V : ax_V} {G : ax_G} {cc : ByteArray} {nL : Nat} {own : String} {pl : ax_pool} {ret : Option FieldType} {cells slots : Nat} {Q : State → Prop}
variable {pc : Nat} {lv : List (Nat × Value)} {r : List Value} {h : List va_E} {a t n j : Nat} {i : Int32}
theorem AW.ldcS (X : ax_X p m meth c s args V G cc nL own pl ret) {idx : Nat} {tx : String} (hz : (own, idx, tx, a) ∈ V.sr) (hd : decode cc pc = .ok (.ldc idx, 2)) (kk : AW p l e R s m args below meth c V G nL h cells slots Q (pc + 2) lv (.ref a :: r)) : AW p l e R s m args below meth c V G nL h cells slots Q pc lv r :=
  fun H locs ls hH hl hv => va_ldcS X.x X.b X.ow (X.k.2.2.2.2.2.2.2 _ hz) hd (kk H locs ls hH hl hv)
/-- what a call of an inherited or abstract method rests on -/
def ax_CU (V : ax_V) (own : String) (index : Nat) (owner C : String) (x y : MethodName) (bytes : ByteArray) (maxL : Nat) (ret : Option FieldType) (n : Nat) : Prop :=
  Cond.methodLink own index x ∈ V.ts ∧ Cond.sameMethod x.cls owner x.name x.desc ∈ V.ts ∧ Cond.selects C x y ∈ V.ts ∧ Cond.instanceMethod y ∈ V.ts ∧ Cond.initialized y.cls ∈ V.ts ∧ Cond.code y bytes maxL ret ∈ V.ts ∧ (⟨owner, x.name, x.desc⟩ : MethodName) ∈ V.dc ∧ (owner ≠ "java/lang/invoke/MethodHandle" ∧ owner ≠ "java/lang/invoke/VarHandle" ∧ (parseMethodDescriptor x.desc).map (fun d => d.parameters.length) = some n)
theorem AW.callU (X : ax_X p m meth c s args V G cc nL own pl ret) {index ci : Nat} {owner : String} {x y : MethodName} {bytes : ByteArray} {maxL d mc ms : Nat} {ret' : Option FieldType} {As fs : List Value} {rc : vw_C} {Qa : Option Value → List va_E → Prop} (hM : AM l V G y bytes maxL ret' d mc ms (.ref a :: As) h Qa) (hw : ax_CU V own index owner rc.1 x y bytes maxL ret' n) (ha : h[a]? = some (.inr (ci, fs))) (hc : V.cl[ci]? = some rc) (hn : As.length = n) (hR : d + 1 ≤ R.frames ∧ 19 + maxL + 40 * d ≤ R.locals) (hr : (r.map fun v => v.category).sum ≤ 8) (hf : cells + mc ≤ R.cells ∧ slots + ms ≤ R.slots) (hd : decode cc pc = .ok (.invokevirtual index, 3))
    (kk : ∀ (v : Option Value) (h' : List va_E), Qa v h' → AW p l e R s m args below meth c V G nL h' (cells + mc) (slots + ms) Q (pc + 3) lv (v.toList ++ r)) : AW p l e R s m args below meth c V G nL h cells slots Q pc lv (As.reverse ++ .ref a :: r) := by
  obtain ⟨w1, w2, w3, w4, w5, w6, w7, w8⟩ := hw
  refine AW.callR (fun H locs ls hH hv => va_runU (C := rc.1) (b := G.ph a) (As := As.map (ax_v G.ph)) ⟨X.x, X.b, X.ml, X.ow, X.ts⟩ (hM X.i) (va_cwA (Ts := V.ts) n X.ts (fun w hw => ?_) rfl rfl rfl (X.k.2.2.2.2.2.1 _ w7) w8 ⟨hR.1, ?_⟩) ⟨ax_blind (As := .ref a :: As), va_recv (q0 := 0) X.k.K (ax_P1 hH ha rfl) hc rfl, fun U hU hW => ⟨rfl, X.k.moved hW, by rw [hU]; exact hH⟩⟩ rfl (by rw [List.length_map]; exact hn) hv.1 (by rw [List.map_append, List.map_reverse]; rfl) (ax_rm8 hr) hd hf) kk
  · unfold va_wsU at hw
    rcases List.mem_append.mp hw with q | q
    · simp only [List.mem_cons, List.not_mem_nil, or_false] at q
      rcases q with rfl | rfl | rfl | rfl | rfl
      · exact X.gd _ w1
      · exact X.gd _ w2
      · exact X.gd _ w3
      · exact X.gd _ w4
      · exact X.gd _ w5
    · rcases List.mem_cons.mp q with e1 | e1
      · rw [e1]; exact X.gd _ w6
      · exact X.gd _ e1
  · show 8 + (maxL + 11) + 40 * d ≤ R.locals
    omega
theorem AW.anew (X : ax_X p m meth c s args V G cc nL own pl ret) {idx N : Nat} {C : String} {x : Int32} (hlink : Cond.classLink own idx C ∈ V.ts) (hao : C ∈ V.ao) (ht : V.tl[t]? = some (.object C)) (hx : x = nI N) (hN : N < 2 ^ 16) (hcells : cells + 1 ≤ R.cells) (hslots : slots + N ≤ R.slots) (hd : decode cc pc = .ok (.anewarray idx, 3)) (kk : AW p l e R s m args below meth c V G nL (h ++ [.inl (t, N, .inr (.inr (.inr (.inr (fun _ => none)))))]) (cells + 1) (slots + N) Q (pc + 3) lv (.ref h.length :: r)) : AW p l e R s m args below meth c V G nL h cells slots Q pc lv (.int x :: r) := by
  intro H locs ls hH hl hv
  subst hx
  have hcl : (nI N).toNatClampNeg = N := nI_clamp (by omega)
  refine W.anew X.x X.b X.ow (X.ts _ hlink) (va_AO.use (X.k.2.2.2.2.2.2.1 _ hao)) rfl hd rfl (nI_pos (by omega)) (by rw [hcl]; omega) hcells (by rw [hcl]; exact hslots) fun cA kA comp f1 f2 f3 f4 => ?_
  rw [hcl]
  have hcA : cA = G.ca t := by
    obtain ⟨kA', comp', g1, g2, g3, g4⟩ := (X.k.2.1 t _ ht).2
    exact Option.some.inj (f1.symm.trans g4)
  subst hcA
  generalize hH1 : H.push ({ cls := G.ca t, slots := Array.replicate N .null, vm := .none } : Cell) = H1
  have z1 : H1.size = H.size + 1 := by rw [← hH1, Array.size_push]
  have e1 : H1[H.size]? = some (arrV (G.ca t) N (fun _ => .null)) := by rw [← hH1, Array.getElem?_push_size, ← arrV_new]
  have o1 : ∀ q : Nat, q < H.size → H1[q]? = H[q]? := fun q hq => by rw [← hH1, Array.getElem?_push, if_neg (Nat.ne_of_lt hq)]
  obtain ⟨g1, g2⟩ := ax_new (c := .inl (t, N, .inr (.inr (.inr (.inr (fun _ => none)))))) X.i hH (by show H1[H.size]? = some (vp_cell (G.ca t) (N, .inr (.inr (.inr (.inr (fun _ => none)))))); rw [vp_cell_q]; exact e1) z1 o1
  have k1 := kk H1 locs ls g1 hl hv
  rw [List.map_cons, show ax_v G.ph (.ref h.length) = .ref (G.ph h.length) from rfl, g2] at k1
  exact k1
theorem ax_nn {z : Int32} {n : Nat} (hz : z = nI n) (hn : n < 2 ^ 31) : ¬ z < 0 ∧ z.toNatClampNeg = n ∧ z.toInt = (n : Int) := by
  subst hz
  exact ⟨nI_pos hn, nI_clamp hn, by have h1 := nI_clamp hn; have h2 := nI_pos hn; have h3 := Int32.le_iff_toInt_le.mp (Int32.not_lt.mp h2); have h4 : (nI n).toInt.toNat = n := h1; have h5 : (0 : Int32).toInt = 0 := rfl; omega⟩
/-- what System.arraycopy rests on -/
def ax_AC (V : ax_V) (own : String) (index : Nat) : Prop := Cond.methodLink own index arraycopyName ∈ V.ts ∧ Cond.native arraycopyName ∈ V.ts ∧ Cond.static arraycopyName ∈ V.ts ∧ Cond.initialized "java/lang/System" ∈ V.ts
theorem ax_cat_sum (ph : Nat → Nat) (r : List Value) : ((r.map (ax_v ph)).map fun v => v.category).sum = (r.map fun v => v.category).sum := by
  rw [List.map_map]
  exact congrArg (fun f => (r.map f).sum) (funext fun v => ax_cat ph v)
theorem AW.copyi (X : ax_X p m meth c s args V G cc nL own pl ret) {index a0 t0 n0 n1 sp dp : Nat} {f g : Nat → Int32} {ty : FieldType} {i0 i1 i2 : Int32} (ha0 : h[a0]? = some (.inl (t0, n0, .inl f))) (ha1 : h[a]? = some (.inl (t, n1, .inl g))) (ht0 : V.tl[t0]? = some ty) (ht1 : V.tl[t]? = some ty) (hprim : refKind ty = false) (hna : ax_nC ≤ a)
    (hw : ax_AC V own index) (e0 : i0 = nI sp) (e1 : i1 = nI dp) (e2 : i2 = nI n) (h4 : sp + n ≤ n0) (h5 : dp + n ≤ n1) (hb0 : n0 < 2 ^ 31) (hb1 : n1 < 2 ^ 31) (hfit : ∀ i, i < n → fits ty (.int (f (sp + i))) = true) (hframes : 1 ≤ R.frames) (hlocals : 40 ≤ R.locals) (hr : (r.map fun v => v.category).sum ≤ 8) (hd : decode cc pc = .ok (.invokestatic index, 3))
    (kk : AW p l e R s m args below meth c V G nL (h.set a (.inl (t, n1, .inl (va_cpy f g sp dp n)))) cells slots Q (pc + 3) lv r) : AW p l e R s m args below meth c V G nL h cells slots Q pc lv (.int i2 :: .int i1 :: .ref a :: .int i0 :: .ref a0 :: r) := by
  obtain ⟨w1, w2, w3, w4⟩ := hw
  obtain ⟨p1, p2, p3⟩ := ax_nn e0 (by omega)
  obtain ⟨q1, q2, q3⟩ := ax_nn e1 (by omega)
  obtain ⟨r1, r2, r3⟩ := ax_nn e2 (by omega)
  intro H locs ls hH hl hv T hT X0
  have hc0 : H[G.ph a0]? = some (vp_cell (G.ca t0) (n0, .inl f)) := hH.1 a0 _ ha0 rfl
  have hc1 : H[G.ph a]? = some (vp_cell (G.ca t) (n1, .inl g)) := hH.1 a _ ha1 rfl
  obtain ⟨-, k0, hk0, cm0, hkk0⟩ := (X.k.2.1 t0 _ ht0).1 n0 (fun j => .int (f j))
  obtain ⟨-, k1, hk1, cm1, hkk1⟩ := (X.k.2.1 t _ ht1).1 n1 (fun j => .int (g j))
  obtain ⟨vm', X', step⟩ := X0.arraycopy X.x X.ow (X.ts _ w1) (X.ts _ w2) (X.ts _ w3) (X.ts _ w4) (src := G.ph a0) (dst := G.ph a) (cs := vp_cell (G.ca t0) (n0, .inl f)) (cd := vp_cell (G.ca t) (n1, .inl g)) (srcPos := i0) (destPos := i1) (n := i2) (by rw [hT]; exact hc0) (by rw [hT]; exact hc1)
    (fun _ h => by cases h) (fun _ h => by cases h) (fun h => by cases h) (fun h => by cases h) hk0 hk1 hkk0 hkk1 (by simp [hprim]) p1 q1 r1
    (by rw [p3, r3]; show ¬ _ > ((arrV (G.ca t0) n0 (fun j => .int (f j))).slots.size : Int); rw [arrV_size]; omega)
    (by rw [q3, r3]; show ¬ _ > ((arrV (G.ca t) n1 (fun j => .int (g j))).slots.size : Int); rw [arrV_size]; omega)
    (fun vm₁ _ i hi => by
      rw [r2] at hi
      have e : (vp_cell (G.ca t0) (n0, .inl f)).slots.getD (i0.toNatClampNeg + i) .null = .int (f (sp + i)) := by
        show (arrV (G.ca t0) n0 (fun j => .int (f j))).slots.getD _ _ = _
        rw [p2, Array.getD_eq_getD_getElem?, arrV_read _ _ (by omega)]
        rfl
      refine ⟨?_, ?_⟩
      · rw [e]
        exact hfit i hi
      · rw [e]
        exact trivial)
    (g := F0 m pc ls ((.int i2 :: .int i1 :: .ref a :: .int i0 :: .ref a0 :: r).map (ax_v G.ph))) rfl (by rw [X.ml]; exact hv.1) (rest := r.map (ax_v G.ph)) rfl (by rw [X.b]; exact hd) hframes (by
      show 2 * 0 + _ + _ ≤ _
      have z1 := ax_cat_sum G.ph r
      have z2 : nativeFrameWords "java/lang/System" "arraycopy" 5 + 11 ≤ 32 := by decide
      omega)
  have e1 : copied (vp_cell (G.ca t0) (n0, .inl f)) (vp_cell (G.ca t) (n1, .inl g)) i0 i1 i2 = vp_cell (G.ca t) (n1, .inl (va_cpy f g sp dp n)) := by
    rw [← p2, ← q2, ← r2]
    exact va_copied (fun z => .int z) (G.ca t0) (G.ca t) f g (by rw [p2, r2]; exact h4)
  rw [e1] at X' step
  have hlt : G.ph a < H.size := (Array.getElem?_eq_some_iff.mp hc1).1
  have hheap : ((T.setVm vm').setCell (G.ph a) (vp_cell (G.ca t) (n1, .inl (va_cpy f g sp dp n)))).heap = H.setIfInBounds (G.ph a) (vp_cell (G.ca t) (n1, .inl (va_cpy f g sp dp n))) := by rw [← hT]; rfl
  have oq : ∀ q : Nat, q ≠ G.ph a → (H.setIfInBounds (G.ph a) (vp_cell (G.ca t) (n1, .inl (va_cpy f g sp dp n))))[q]? = H[q]? := fun q hq => by simp [Array.getElem?_setIfInBounds, Ne.symm hq]
  obtain ⟨t9, a1, b1⟩ := kk (H.setIfInBounds (G.ph a) (vp_cell (G.ca t) (n1, .inl (va_cpy f g sp dp n)))) _ ls (ax_set X.i hH ha1 hna (fun _ => show (H.setIfInBounds (G.ph a) _)[G.ph a]? = some _ by simp [Array.getElem?_setIfInBounds, hlt]; rfl) (by simp) oq) (fun q hq => by
      rcases List.mem_append.mp hq with h | h
      · exact hl q h
      · obtain ⟨z, -, hz⟩ := List.mem_map.mp h
        rw [← hz]
        exact ax_bsle X.i hna) hv _ hheap X'
  exact ⟨t9, step t9 a1, b1⟩
theorem AW.copyq (X : ax_X p m meth c s args V G cc nL own pl ret) {index a0 t0 n0 n1 sp dp ci : Nat} {f g : Nat → Option Nat} {E : String} {rc : vw_C} {i0 i1 i2 : Int32} (ha0 : h[a0]? = some (.inl (t0, n0, .inr (.inr (.inr (.inr f)))))) (ha1 : h[a]? = some (.inl (t, n1, .inr (.inr (.inr (.inr g)))))) (ht0 : V.tl[t0]? = some (.object E)) (ht1 : V.tl[t]? = some (.object E)) (hna : ax_nC ≤ a) (hc : V.cl[ci]? = some rc) (hE : rc.1 = E)
    (hw : ax_AC V own index) (e0 : i0 = nI sp) (e1 : i1 = nI dp) (e2 : i2 = nI n) (h4 : sp + n ≤ n0) (h5 : dp + n ≤ n1) (hb0 : n0 < 2 ^ 31) (hb1 : n1 < 2 ^ 31) (hel : ∀ i, i < n → ∀ y, f (sp + i) = some y → ∃ fs, h[y]? = some (.inr (ci, fs))) (hframes : 1 ≤ R.frames) (hlocals : 40 ≤ R.locals) (hr : (r.map fun v => v.category).sum ≤ 8) (hd : decode cc pc = .ok (.invokestatic index, 3))
    (kk : AW p l e R s m args below meth c V G nL (h.set a (.inl (t, n1, .inr (.inr (.inr (.inr (va_cpy f g sp dp n))))))) cells slots Q (pc + 3) lv r) : AW p l e R s m args below meth c V G nL h cells slots Q pc lv (.int i2 :: .int i1 :: .ref a :: .int i0 :: .ref a0 :: r) := by
  obtain ⟨w1, w2, w3, w4⟩ := hw
  obtain ⟨p1, p2, p3⟩ := ax_nn e0 (by omega)
  obtain ⟨q1, q2, q3⟩ := ax_nn e1 (by omega)
  obtain ⟨r1, r2, r3⟩ := ax_nn e2 (by omega)
  intro H locs ls hH hl hv T hT X0
  have hc0 : H[G.ph a0]? = some (vp_cell (G.ca t0) (n0, .inr (.inr (.inr (.inr (fun j => ax_o G.ph (f j))))))) := hH.1 a0 _ ha0 rfl
  have hc1 : H[G.ph a]? = some (vp_cell (G.ca t) (n1, .inr (.inr (.inr (.inr (fun j => ax_o G.ph (g j))))))) := hH.1 a _ ha1 rfl
  obtain ⟨-, k0, hk0, cm0, hkk0⟩ := (X.k.2.1 t0 _ ht0).1 n0 (fun j => va_rf (ax_o G.ph (f j)))
  obtain ⟨-, k1, hk1, cm1, hkk1⟩ := (X.k.2.1 t _ ht1).1 n1 (fun j => va_rf (ax_o G.ph (g j)))
  obtain ⟨vm', X', step⟩ := X0.arraycopy X.x X.ow (X.ts _ w1) (X.ts _ w2) (X.ts _ w3) (X.ts _ w4) (src := G.ph a0) (dst := G.ph a) (cs := vp_cell (G.ca t0) (n0, .inr (.inr (.inr (.inr (fun j => ax_o G.ph (f j))))))) (cd := vp_cell (G.ca t) (n1, .inr (.inr (.inr (.inr (fun j => ax_o G.ph (g j))))))) (srcPos := i0) (destPos := i1) (n := i2) (by rw [hT]; exact hc0) (by rw [hT]; exact hc1)
    (fun _ h => by cases h) (fun _ h => by cases h) (fun h => by cases h) (fun h => by cases h) hk0 hk1 hkk0 hkk1 rfl p1 q1 r1
    (by rw [p3, r3]; show ¬ _ > ((arrV (G.ca t0) n0 (fun j => va_rf (ax_o G.ph (f j)))).slots.size : Int); rw [arrV_size]; omega)
    (by rw [q3, r3]; show ¬ _ > ((arrV (G.ca t) n1 (fun j => va_rf (ax_o G.ph (g j)))).slots.size : Int); rw [arrV_size]; omega)
    (fun vm₁ hal i hi => by
      rw [r2] at hi
      have e : (vp_cell (G.ca t0) (n0, .inr (.inr (.inr (.inr (fun j => ax_o G.ph (f j))))))).slots.getD (i0.toNatClampNeg + i) .null = va_rf (ax_o G.ph (f (sp + i))) := by
        show (arrV (G.ca t0) n0 (fun j => va_rf (ax_o G.ph (f j)))).slots.getD _ _ = _
        rw [p2, Array.getD_eq_getD_getElem?, arrV_read _ _ (by omega)]
        rfl
      rw [e]
      cases hy : f (sp + i) with
      | none => exact ⟨rfl, trivial⟩
      | some y =>
        obtain ⟨fs, hfs⟩ := hel i hi y hy
        obtain ⟨r', hr', cellV, g1, g2, g3, -⟩ := hH.1 y _ hfs rfl
        have hcls := (X.k.u hc).2
        obtain ⟨kA, comp, s1, s2, s3, -⟩ := (X.k.2.1 t _ ht1).2
        cases hk1.symm.trans s1
        cases hkk1.symm.trans s2
        obtain ⟨kC, hkC, -⟩ := hcls.2
        obtain ⟨kE, hkE, -⟩ := Vm.findClass_spec s3
        obtain ⟨kC', hkC', -⟩ := hal.2.2 _ _ hkC
        obtain ⟨kE', hkE', -⟩ := hal.2.2 _ _ hkE
        refine ⟨rfl, cellV, (show T.heap[G.ph y]? = some cellV by rw [hT]; exact g1), (fun q h => by rw [g3] at h; cases h), ⟨kC', by rw [g2]; exact hkC'⟩, ?_, ?_⟩
        · exact ⟨kE', hkE'⟩
        · show vm₁.assignable _ _ = true
          rw [hal.assignable, g2]
          have hcl1 := hcls.1
          rw [hE] at hcl1
          cases hcl1.symm.trans s3
          exact va_asg _ _)
    (g := F0 m pc ls ((.int i2 :: .int i1 :: .ref a :: .int i0 :: .ref a0 :: r).map (ax_v G.ph))) rfl (by rw [X.ml]; exact hv.1) (rest := r.map (ax_v G.ph)) rfl (by rw [X.b]; exact hd) hframes (by
      show 2 * 0 + _ + _ ≤ _
      have z1 := ax_cat_sum G.ph r
      have z2 : nativeFrameWords "java/lang/System" "arraycopy" 5 + 11 ≤ 32 := by decide
      omega)
  have e1 : copied (vp_cell (G.ca t0) (n0, .inr (.inr (.inr (.inr (fun j => ax_o G.ph (f j))))))) (vp_cell (G.ca t) (n1, .inr (.inr (.inr (.inr (fun j => ax_o G.ph (g j))))))) i0 i1 i2 = vp_cell (G.ca t) (n1, .inr (.inr (.inr (.inr (fun j => ax_o G.ph (va_cpy f g sp dp n j)))))) := by
    rw [vp_cell_q, vp_cell_q, vp_cell_q, ← p2, ← q2, ← r2]
    have z := va_copied (fun z => va_rf (ax_o G.ph z)) (G.ca t0) (G.ca t) (n0 := n0) (n1 := n1) (sp := i0.toNatClampNeg) (dp := i1.toNatClampNeg) (n := i2.toNatClampNeg) f g (by rw [p2, r2]; exact h4)
    exact z
  rw [e1] at X' step
  have hlt : G.ph a < H.size := (Array.getElem?_eq_some_iff.mp hc1).1
  have hheap : ((T.setVm vm').setCell (G.ph a) (vp_cell (G.ca t) (n1, .inr (.inr (.inr (.inr (fun j => ax_o G.ph (va_cpy f g sp dp n j)))))))).heap = H.setIfInBounds (G.ph a) (vp_cell (G.ca t) (n1, .inr (.inr (.inr (.inr (fun j => ax_o G.ph (va_cpy f g sp dp n j))))))) := by rw [← hT]; rfl
  have oq : ∀ q : Nat, q ≠ G.ph a → (H.setIfInBounds (G.ph a) (vp_cell (G.ca t) (n1, .inr (.inr (.inr (.inr (fun j => ax_o G.ph (va_cpy f g sp dp n j))))))))[q]? = H[q]? := fun q hq => by simp [Array.getElem?_setIfInBounds, Ne.symm hq]
  obtain ⟨t9, a1, b1⟩ := kk (H.setIfInBounds (G.ph a) (vp_cell (G.ca t) (n1, .inr (.inr (.inr (.inr (fun j => ax_o G.ph (va_cpy f g sp dp n j)))))))) _ ls (ax_set X.i hH ha1 hna (fun _ => show (H.setIfInBounds (G.ph a) _)[G.ph a]? = some _ by simp [Array.getElem?_setIfInBounds, hlt]; rfl) (by simp) oq) (fun q hq => by
      rcases List.mem_append.mp hq with h | h
      · exact hl q h
      · obtain ⟨z, -, hz⟩ := List.mem_map.mp h
        rw [← hz]
        exact ax_bsle X.i hna) hv _ hheap X'
  exact ⟨t9, step t9 a1, b1⟩
/-- what a clone of an array rests on -/
def ax_CN (V : ax_V) (own : String) (index : Nat) (ad : String) : Prop := Cond.methodLink own index ⟨ad, "clone", "()Ljava/lang/Object;"⟩ ∈ V.ts ∧ Cond.sameMethod ad "java/lang/Object" "clone" "()Ljava/lang/Object;" ∈ V.ts ∧ Cond.native ⟨"java/lang/Object", "clone", "()Ljava/lang/Object;"⟩ ∈ V.ts ∧ Cond.instanceMethod ⟨"java/lang/Object", "clone", "()Ljava/lang/Object;"⟩ ∈ V.ts ∧ Cond.selects ad ⟨ad, "clone", "()Ljava/lang/Object;"⟩ ⟨"java/lang/Object", "clone", "()Ljava/lang/Object;"⟩ ∈ V.ts ∧ (ad, "java/lang/Cloneable") ∈ V.ct
theorem AW.clone (X : ax_X p m meth c s args V G cc nL own pl ret) {index N : Nat} {ad : String} {f : Nat → Int32} {ty : FieldType} (hw : ax_CN V own index ad) (ha : h[a]? = some (.inl (t, N, .inl f))) (ht : V.tl[t]? = some ty) (hnm : ∀ (cA : ClassId) (U : State), va_RA U cA ty → U.vm.findClass ad = some cA) (hfit : ∀ i, i < N → fits ty (.int (f i)) = true) (hframes : 1 ≤ R.frames) (hlocals : 40 ≤ R.locals) (hr : (r.map fun v => v.category).sum ≤ 8) (hcells : cells + 1 ≤ R.cells) (hslots : slots + N ≤ R.slots) (hd : decode cc pc = .ok (.invokevirtual index, 3))
    (kk : AW p l e R s m args below meth c V G nL (h ++ [.inl (t, N, .inl f)]) (cells + 1) (slots + N) Q (pc + 3) lv (.ref h.length :: r)) : AW p l e R s m args below meth c V G nL h cells slots Q pc lv (.ref a :: r) := by
  obtain ⟨w1, w2, w3, w4, w5, w6⟩ := hw
  intro H locs ls hH hl hv T hT X0
  obtain ⟨c0, t0', f1, f2, f3⟩ := Cond.castable_spec (va_Nw.use (A := args) rfl (X.k.2.2.2.2.1 _ w6))
  have hnm' := hnm _ _ (X.k.2.1 t _ ht).2
  cases hnm'.symm.trans f1
  have hcell : H[G.ph a]? = some (vp_cell (G.ca t) (N, .inl f)) := hH.1 a _ ha rfl
  have hcellT : T.heap[G.ph a]? = some (vp_cell (G.ca t) (N, .inl f)) := by rw [hT]; exact hcell
  have hsz : (vp_cell (G.ca t) (N, .inl f)).slots.size = N := arrV_size _ _ _
  obtain ⟨-, kA, hkA, comp, hkind⟩ := State.isArrayOf_alike X0.warmed.alike ((X.k.2.1 t _ ht).1 0 (fun _ => .null))
  obtain ⟨-, kS, hkS, compS, hkindS⟩ := (X.k.2.1 t _ ht).1 0 (fun _ => .null)
  obtain ⟨vm', X', st⟩ := X0.cloneArray X.x X.ow (X.ts _ w1) (X.ts _ w2) (X.ts _ w3) (X.ts _ w4) (X.ts _ w5) (a := G.ph a) (cell := vp_cell (G.ca t) (N, .inl f)) hcellT (fun k h => by cases h) (fun h => by cases h) hnm' f2 f3
    (fun i v hv => by
      have hk' : T.vm.classes[(vp_cell (G.ca t) (N, .inl f)).cls]? = some kA := hkA
      have hi : i < N := by
        have := (Array.getElem?_eq_some_iff.mp hv).1
        rw [hsz] at this
        exact this
      have e : (vp_cell (G.ca t) (N, .inl f)).slots[i]? = some (.int (f i)) := arrV_read _ _ hi
      cases e.symm.trans hv
      simpa [State.fitsSlot, State.slotType?, hk', hkind] using hfit i hi)
    (g := F0 m pc ls ((.ref a :: r).map (ax_v G.ph))) rfl (by rw [X.ml]; exact hv.1) rfl (by rw [X.b]; exact hd) hframes (by
      show 2 * 0 + _ + 14 ≤ _
      have z1 := ax_cat_sum G.ph r
      omega) hcells (by rw [hsz]; exact hslots) (hloader := Vm.clonesLoader_of_array hkS hkindS)
  rw [hsz] at X'
  generalize hH1 : H.push (vp_cell (G.ca t) (N, .inl f)) = H1
  have z1 : H1.size = H.size + 1 := by rw [← hH1, Array.size_push]
  have e1 : H1[H.size]? = some (vp_cell (G.ca t) (N, .inl f)) := by rw [← hH1, Array.getElem?_push_size]
  have o1 : ∀ q : Nat, q < H.size → H1[q]? = H[q]? := fun q hq => by rw [← hH1, Array.getElem?_push, if_neg (Nat.ne_of_lt hq)]
  obtain ⟨g1, g2⟩ := ax_new (c := .inl (t, N, .inl f)) X.i hH e1 z1 o1
  obtain ⟨t9, b1, b2⟩ := kk H1 locs ls g1 hl hv ((T.setVm vm').pushCell (vp_cell (G.ca t) (N, .inl f))) (by rw [← hH1, ← hT]; rfl) X'
  refine ⟨t9, st t9 ?_, b2⟩
  rw [hT]
  rw [List.map_cons, show ax_v G.ph (.ref h.length) = .ref (G.ph h.length) from rfl, g2] at b1
  exact b1
theorem AW.castA (X : ax_X p m meth c s args V G cc nL own pl ret) {index N : Nat} {nm : String} {f : Nat → Int32} {ty : FieldType} (hlink : Cond.classLink own index nm ∈ V.ts) (ha : h[a]? = some (.inl (t, N, .inl f))) (ht : V.tl[t]? = some ty) (hnm : ∀ (cA : ClassId) (U : State), va_RA U cA ty → U.vm.findClass nm = some cA) (hd : decode cc pc = .ok (.checkcast index, 3))
    (kk : AW p l e R s m args below meth c V G nL h cells slots Q (pc + 3) lv (.ref a :: r)) : AW p l e R s m args below meth c V G nL h cells slots Q pc lv (.ref a :: r) := by
  intro H locs ls hH hl hv T hT X0
  have hcell : H[G.ph a]? = some (vp_cell (G.ca t) (N, .inl f)) := hH.1 a _ ha rfl
  obtain ⟨vm', X', st⟩ := X0.checkcastYes X.x X.ow (X.ts _ hlink) (by rw [hT]; exact hcell) rfl (hnm _ _ (X.k.2.1 t _ ht).2) (va_asg _ _) (g := F0 m pc ls ((.ref a :: r).map (ax_v G.ph))) rfl rfl (by rw [X.b]; exact hd)
  obtain ⟨t9, a1, b1⟩ := kk H locs ls hH hl hv (T.setVm vm') hT X'
  exact ⟨t9, st t9 a1, b1⟩
/-- a static array of bytes is read -/
theorem AW.tbald (X : ax_X p m meth c s args V G cc nL own pl ret) {N : Nat} {f : Nat → Value} (hz : (a, .byte, N, f) ∈ V.ta) (hi : i = nI j) (hj : j < N) (hn : N < 2 ^ 31) (hd : decode cc pc = .ok (.baload, 1)) (k : AW p l e R s m args below meth c V G nL h cells slots Q (pc + 1) lv (f j :: r)) : AW p l e R s m args below meth c V G nL h cells slots Q pc lv (.int i :: .ref a :: r) := by
  obtain ⟨g1, g2⟩ := ax_inn hi hj hn
  intro H locs ls hH hl hv
  obtain ⟨cell, h1, h2, h3, h4, h5, h6, h7⟩ := X.k.2.2.2.1 _ hz
  refine W.bald X.x X.b (by rw [hH.2.2.2 _ (Nat.not_le.mp h7)]; exact h1) h2 h3 ?_ (v := ax_v G.ph (f j)) (by rw [g2]; exact h6 j hj) rfl rfl hd (k H locs ls hH hl hv)
  rintro (q | q)
  · exact g1 (Or.inl q)
  · rw [g2] at q
    have q4 : N ≤ cell.slots.size := h4
    omega
end AXMO
section AXM2
variable {p : Program} {l : Launch} {e : Env} {R : Room} {s : State} {m : MethodId} {args : Array Value} {below : List Frame} {meth : Method} {c : Code} {G : ax_G} {cc : ByteArray} {nL : Nat} {own : String} {pl : ax_pool} {ret : Option FieldType} {cells slots : Nat} {Q : State → Prop}
variable {pc : Nat} {lv : List (Nat × Value)} {r : List Value} {S : x_S} {M : x_M} {tl : List va_E} {j b : Nat} {i : Int32}
theorem AW.crl0 (X : ax_X p m meth c s args VV G cc nL own pl ret) (hi : i = nI j) (hj : j < 24) (hd : decode cc pc = .ok (.aaload, 1)) (kk : AW p l e R s m args below meth c VV G nL (x_hC S tl) cells slots Q (pc + 1) lv (va_rf (S.2.2.1 0 j) :: r)) : AW p l e R s m args below meth c VV G nL (x_hC S tl) cells slots Q pc lv (.int i :: .ref 133 :: r) :=
  AW.aald X rfl rfl hi hj (by decide) hd kk
theorem AW.crn0 (X : ax_X p m meth c s args VV G cc nL own pl ret) (hi : i = nI j) (hj : j < 24) (hd : decode cc pc = .ok (.aastore, 1)) (kk : AW p l e R s m args below meth c VV G nL (x_hC (x_r S 0 j none) tl) cells slots Q (pc + 1) lv r) : AW p l e R s m args below meth c VV G nL (x_hC S tl) cells slots Q pc lv (.null :: .int i :: .ref 133 :: r) :=
  AW.aastN (C := "NumberFunctions$Function") X rfl rfl (by decide) hi hj (by decide) hd (AW.eq (h' := x_hC (x_r S 0 j none) tl) rfl kk)
theorem AW.crs0 (X : ax_X p m meth c s args VV G cc nL own pl ret) {ci : Nat} {fs : List Value} {rc : vw_C} (hb : (x_hC S tl)[b]? = some (.inr (ci, fs))) (hc : VV.cl[ci]? = some rc) (hca : rc.1 = "NumberFunctions$Function" ∨ (rc.1, "NumberFunctions$Function") ∈ VV.ct) (hi : i = nI j) (hj : j < 24) (hd : decode cc pc = .ok (.aastore, 1)) (kk : AW p l e R s m args below meth c VV G nL (x_hC (x_r S 0 j (some b)) tl) cells slots Q (pc + 1) lv r) : AW p l e R s m args below meth c VV G nL (x_hC S tl) cells slots Q pc lv (.ref b :: .int i :: .ref 133 :: r) :=
  AW.aast (E := "NumberFunctions$Function") X rfl rfl (by decide) hb hc hca hi hj (by decide) hd (AW.eq (h' := x_hC (x_r S 0 j (some b)) tl) rfl kk)
theorem AW.crl1 (X : ax_X p m meth c s args VV G cc nL own pl ret) (hi : i = nI j) (hj : j < 400) (hd : decode cc pc = .ok (.aaload, 1)) (kk : AW p l e R s m args below meth c VV G nL (x_hC S tl) cells slots Q (pc + 1) lv (va_rf (S.2.2.1 1 j) :: r)) : AW p l e R s m args below meth c VV G nL (x_hC S tl) cells slots Q pc lv (.int i :: .ref 139 :: r) :=
  AW.aald X rfl rfl hi hj (by decide) hd kk
theorem AW.crn1 (X : ax_X p m meth c s args VV G cc nL own pl ret) (hi : i = nI j) (hj : j < 400) (hd : decode cc pc = .ok (.aastore, 1)) (kk : AW p l e R s m args below meth c VV G nL (x_hC (x_r S 1 j none) tl) cells slots Q (pc + 1) lv r) : AW p l e R s m args below meth c VV G nL (x_hC S tl) cells slots Q pc lv (.null :: .int i :: .ref 139 :: r) :=
  AW.aastN (C := "NumberFunctions$Word") X rfl rfl (by decide) hi hj (by decide) hd (AW.eq (h' := x_hC (x_r S 1 j none) tl) rfl kk)
theorem AW.crs1 (X : ax_X p m meth c s args VV G cc nL own pl ret) {ci : Nat} {fs : List Value} {rc : vw_C} (hb : (x_hC S tl)[b]? = some (.inr (ci, fs))) (hc : VV.cl[ci]? = some rc) (hca : rc.1 = "NumberFunctions$Word" ∨ (rc.1, "NumberFunctions$Word") ∈ VV.ct) (hi : i = nI j) (hj : j < 400) (hd : decode cc pc = .ok (.aastore, 1)) (kk : AW p l e R s m args below meth c VV G nL (x_hC (x_r S 1 j (some b)) tl) cells slots Q (pc + 1) lv r) : AW p l e R s m args below meth c VV G nL (x_hC S tl) cells slots Q pc lv (.ref b :: .int i :: .ref 139 :: r) :=
  AW.aast (E := "NumberFunctions$Word") X rfl rfl (by decide) hb hc hca hi hj (by decide) hd (AW.eq (h' := x_hC (x_r S 1 j (some b)) tl) rfl kk)
theorem AW.cp10 (X : ax_X p m meth c s args VV G cc nL own pl ret) {x : Int32} {idx : Nat} (hx : narrow .boolean (.int x) = .int x ∧ fits .boolean (.int x) = true) (hd : decode cc pc = .ok (.putfield idx, 3)) (kk : AW p l e R s m args below meth c VV G nL (x_hC (x_i S 10 x) tl) cells slots Q (pc + 3) lv r) (hf : pl.1 idx 4 = some 3 := by rfl) : AW p l e R s m args below meth c VV G nL (x_hC S tl) cells slots Q pc lv (.int x :: .ref 147 :: r) :=
  AW.put (C := "NumberFunctions$Machine") (T := Cl_K) (N := 4) (ty := .boolean) X rfl (by decide) hf rfl L_K rfl rfl hx.1 hx.2 (Nat.le_of_ble_eq_true rfl) hd (AW.eq (h' := x_hC (x_i S 10 x) tl) rfl kk)
def x_v (S : x_S) (v : Value) : x_S := (S.1, S.2.1, S.2.2.1, v)
theorem AW.cpv (X : ax_X p m meth c s args VV G cc nL own pl ret) {idx b : Nat} (hd : decode cc pc = .ok (.putfield idx, 3)) (kk : AW p l e R s m args below meth c VV G nL (x_hC (x_v S (.ref b)) tl) cells slots Q (pc + 3) lv r) (hf : pl.1 idx 3 = some 10 := by rfl) : AW p l e R s m args below meth c VV G nL (x_hC S tl) cells slots Q pc lv (.ref b :: .ref 138 :: r) :=
  AW.put (C := "NumberFunctions$Reader") (T := Cl_R) (N := 13) (ty := .array .byte) X rfl (by decide) hf rfl L_R rfl rfl rfl rfl (Nat.le_of_ble_eq_true rfl) hd (AW.eq (h' := x_hC (x_v S (.ref b)) tl) rfl kk)
end AXM2
theorem v_len : v_cst.length = 129 := by rfl
theorem x_cl (S : x_S) : (x_cs S).length = 21 := rfl
theorem x_tl (S : x_S) (tl : List va_E) (k : Nat) : (x_hC S tl)[150 + k]? = tl[k]? := by
  unfold x_hC
  have h1 := v_len
  have h2 := x_cl S
  generalize v_cst = A at *
  generalize x_cs S = B at *
  rw [List.getElem?_append_right (by omega), List.getElem?_append_right (by omega)]
  congr 1
  omega
theorem x_len (S : x_S) (tl : List va_E) : (x_hC S tl).length = 150 + tl.length := by
  unfold x_hC
  rw [List.length_append, List.length_append, v_len, x_cl]
  omega
theorem x_set (S : x_S) (tl : List va_E) (k : Nat) (c : va_E) : (x_hC S tl).set (150 + k) c = x_hC S (tl.set k c) := by
  unfold x_hC
  have h1 := v_len
  have h2 := x_cl S
  generalize v_cst = A at *
  generalize x_cs S = B at *
  rw [List.set_append_right _ _ (by omega), List.set_append_right _ _ (by omega)]
  congr 3
  omega
theorem x_app (S : x_S) (tl : List va_E) (c : va_E) : x_hC S tl ++ [c] = x_hC S (tl ++ [c]) := by
  unfold x_hC
  rw [List.append_assoc, List.append_assoc]
theorem gs_O_153 : ("NumberFunctions$Word", "ALL", "[LNumberFunctions$Word;", (.ref 87 : Value)) ∈ VV.zs ∧ Cond.fieldLink "NumberFunctions$Word" 153 "NumberFunctions$Word" "ALL" "[LNumberFunctions$Word;" ∈ VV.ts := ⟨List.mem_of_getElem? (i := 39) rfl, mt3 (List.mem_of_getElem? (i := 23) rfl)⟩
theorem gs_JString_38 : ("java/lang/String", "COMPACT_STRINGS", "Z", (.int 1 : Value)) ∈ VV.zs ∧ Cond.fieldLink "java/lang/String" 38 "java/lang/String" "COMPACT_STRINGS" "Z" ∈ VV.ts := ⟨List.mem_of_getElem? (i := 41) rfl, mt3 (List.mem_of_getElem? (i := 33) rfl)⟩
theorem gs_R_85 : ("NumberFunctions$Word", "OPEN", "LNumberFunctions$Word;", (.ref 0 : Value)) ∈ VV.zs ∧ Cond.fieldLink "NumberFunctions$Reader" 85 "NumberFunctions$Word" "OPEN" "LNumberFunctions$Word;" ∈ VV.ts := ⟨List.mem_of_getElem? (i := 0) rfl, mt3 (List.mem_of_getElem? (i := 82) rfl)⟩
theorem gs_R_102 : ("NumberFunctions$Word", "IF", "LNumberFunctions$Word;", (.ref 37 : Value)) ∈ VV.zs ∧ Cond.fieldLink "NumberFunctions$Reader" 102 "NumberFunctions$Word" "IF" "LNumberFunctions$Word;" ∈ VV.ts := ⟨List.mem_of_getElem? (i := 37) rfl, mt3 (List.mem_of_getElem? (i := 84) rfl)⟩
theorem gs_R_105 : ("NumberFunctions$Word", "IFELSE", "LNumberFunctions$Word;", (.ref 38 : Value)) ∈ VV.zs ∧ Cond.fieldLink "NumberFunctions$Reader" 105 "NumberFunctions$Word" "IFELSE" "LNumberFunctions$Word;" ∈ VV.ts := ⟨List.mem_of_getElem? (i := 38) rfl, mt3 (List.mem_of_getElem? (i := 86) rfl)⟩
theorem gs_R_95 : ("NumberFunctions$Word", "NUMERAL", "LNumberFunctions$Word;", (.ref 2 : Value)) ∈ VV.zs ∧ Cond.fieldLink "NumberFunctions$Reader" 95 "NumberFunctions$Word" "NUMERAL" "LNumberFunctions$Word;" ∈ VV.ts := ⟨List.mem_of_getElem? (i := 2) rfl, mt3 (List.mem_of_getElem? (i := 109) rfl)⟩
theorem gs_R_108 : ("NumberFunctions$Word", "CLOSE", "LNumberFunctions$Word;", (.ref 1 : Value)) ∈ VV.zs ∧ Cond.fieldLink "NumberFunctions$Reader" 108 "NumberFunctions$Word" "CLOSE" "LNumberFunctions$Word;" ∈ VV.ts := ⟨List.mem_of_getElem? (i := 1) rfl, mt3 (List.mem_of_getElem? (i := 115) rfl)⟩
theorem gs_K_84 : ("NumberFunctions$Word", "NUMERAL", "LNumberFunctions$Word;", (.ref 2 : Value)) ∈ VV.zs ∧ Cond.fieldLink "NumberFunctions$Machine" 84 "NumberFunctions$Word" "NUMERAL" "LNumberFunctions$Word;" ∈ VV.ts := ⟨List.mem_of_getElem? (i := 2) rfl, mt4 (List.mem_of_getElem? (i := 2) rfl)⟩
theorem gs_K_87 : ("NumberFunctions$Word", "TRUE", "LNumberFunctions$Word;", (.ref 3 : Value)) ∈ VV.zs ∧ Cond.fieldLink "NumberFunctions$Machine" 87 "NumberFunctions$Word" "TRUE" "LNumberFunctions$Word;" ∈ VV.ts := ⟨List.mem_of_getElem? (i := 3) rfl, mt4 (List.mem_of_getElem? (i := 4) rfl)⟩
theorem gs_K_94 : ("NumberFunctions$Word", "SQRT", "LNumberFunctions$Word;", (.ref 13 : Value)) ∈ VV.zs ∧ Cond.fieldLink "NumberFunctions$Machine" 94 "NumberFunctions$Word" "SQRT" "LNumberFunctions$Word;" ∈ VV.ts := ⟨List.mem_of_getElem? (i := 13) rfl, mt4 (List.mem_of_getElem? (i := 14) rfl)⟩
theorem gs_K_100 : ("NumberFunctions$1", "$SwitchMap$NumberFunctions$Word", "[I", (.ref 88 : Value)) ∈ VV.zs ∧ Cond.fieldLink "NumberFunctions$Machine" 100 "NumberFunctions$1" "$SwitchMap$NumberFunctions$Word" "[I" ∈ VV.ts := ⟨List.mem_of_getElem? (i := 40) rfl, mt4 (List.mem_of_getElem? (i := 19) rfl)⟩
theorem gs_K_124 : ("NumberFunctions$Word", "DIV", "LNumberFunctions$Word;", (.ref 17 : Value)) ∈ VV.zs ∧ Cond.fieldLink "NumberFunctions$Machine" 124 "NumberFunctions$Word" "DIV" "LNumberFunctions$Word;" ∈ VV.ts := ⟨List.mem_of_getElem? (i := 17) rfl, mt4 (List.mem_of_getElem? (i := 46) rfl)⟩
theorem gs_K_142 : ("NumberFunctions$Word", "BITSHIFT", "LNumberFunctions$Word;", (.ref 20 : Value)) ∈ VV.zs ∧ Cond.fieldLink "NumberFunctions$Machine" 142 "NumberFunctions$Word" "BITSHIFT" "LNumberFunctions$Word;" ∈ VV.ts := ⟨List.mem_of_getElem? (i := 20) rfl, mt4 (List.mem_of_getElem? (i := 68) rfl)⟩
theorem gs_K_151 : ("NumberFunctions$Word", "IDIV", "LNumberFunctions$Word;", (.ref 18 : Value)) ∈ VV.zs ∧ Cond.fieldLink "NumberFunctions$Machine" 151 "NumberFunctions$Word" "IDIV" "LNumberFunctions$Word;" ∈ VV.ts := ⟨List.mem_of_getElem? (i := 18) rfl, mt4 (List.mem_of_getElem? (i := 78) rfl)⟩
theorem gs_K_156 : ("NumberFunctions$Word", "EQ", "LNumberFunctions$Word;", (.ref 21 : Value)) ∈ VV.zs ∧ Cond.fieldLink "NumberFunctions$Machine" 156 "NumberFunctions$Word" "EQ" "LNumberFunctions$Word;" ∈ VV.ts := ⟨List.mem_of_getElem? (i := 21) rfl, mt4 (List.mem_of_getElem? (i := 84) rfl)⟩
theorem gs_K_159 : ("NumberFunctions$Word", "NE", "LNumberFunctions$Word;", (.ref 22 : Value)) ∈ VV.zs ∧ Cond.fieldLink "NumberFunctions$Machine" 159 "NumberFunctions$Word" "NE" "LNumberFunctions$Word;" ∈ VV.ts := ⟨List.mem_of_getElem? (i := 22) rfl, mt4 (List.mem_of_getElem? (i := 86) rfl)⟩
theorem gs_K_48 : ("NumberFunctions$Word", "NOT", "LNumberFunctions$Word;", (.ref 30 : Value)) ∈ VV.zs ∧ Cond.fieldLink "NumberFunctions$Machine" 48 "NumberFunctions$Word" "NOT" "LNumberFunctions$Word;" ∈ VV.ts := ⟨List.mem_of_getElem? (i := 30) rfl, mt4 (List.mem_of_getElem? (i := 91) rfl)⟩
theorem gs_K_62 : ("NumberFunctions$Word", "ROLL", "LNumberFunctions$Word;", (.ref 36 : Value)) ∈ VV.zs ∧ Cond.fieldLink "NumberFunctions$Machine" 62 "NumberFunctions$Word" "ROLL" "LNumberFunctions$Word;" ∈ VV.ts := ⟨List.mem_of_getElem? (i := 36) rfl, mt4 (List.mem_of_getElem? (i := 112) rfl)⟩
theorem gs_K_174 : ("NumberFunctions$Word", "INDEX", "LNumberFunctions$Word;", (.ref 35 : Value)) ∈ VV.zs ∧ Cond.fieldLink "NumberFunctions$Machine" 174 "NumberFunctions$Word" "INDEX" "LNumberFunctions$Word;" ∈ VV.ts := ⟨List.mem_of_getElem? (i := 35) rfl, mt4 (List.mem_of_getElem? (i := 129) rfl)⟩
abbrev sl_N_70 := (List.mem_of_getElem? (l := VV.sr) (i := 0) rfl)
abbrev sl_N_85 := (List.mem_of_getElem? (l := VV.sr) (i := 1) rfl)
abbrev sl_N_92 := (List.mem_of_getElem? (l := VV.sr) (i := 2) rfl)
abbrev sl_N_102 := (List.mem_of_getElem? (l := VV.sr) (i := 3) rfl)
abbrev sl_N_104 := (List.mem_of_getElem? (l := VV.sr) (i := 4) rfl)
abbrev sl_N_106 := (List.mem_of_getElem? (l := VV.sr) (i := 5) rfl)
abbrev sl_N_116 := (List.mem_of_getElem? (l := VV.sr) (i := 6) rfl)
abbrev sl_N_120 := (List.mem_of_getElem? (l := VV.sr) (i := 7) rfl)
abbrev sl_N_139 := (List.mem_of_getElem? (l := VV.sr) (i := 8) rfl)
abbrev sl_M_186 := (List.mem_of_getElem? (l := VV.sr) (i := 9) rfl)
abbrev sl_M_192 := (List.mem_of_getElem? (l := VV.sr) (i := 10) rfl)
abbrev sl_M_231 := (List.mem_of_getElem? (l := VV.sr) (i := 11) rfl)
abbrev sl_M_233 := (List.mem_of_getElem? (l := VV.sr) (i := 12) rfl)
abbrev sl_M_235 := (List.mem_of_getElem? (l := VV.sr) (i := 13) rfl)
abbrev sl_M_237 := (List.mem_of_getElem? (l := VV.sr) (i := 14) rfl)
abbrev sl_M_239 := (List.mem_of_getElem? (l := VV.sr) (i := 15) rfl)
abbrev sl_M_241 := (List.mem_of_getElem? (l := VV.sr) (i := 16) rfl)
abbrev sl_M_243 := (List.mem_of_getElem? (l := VV.sr) (i := 17) rfl)
abbrev sl_M_245 := (List.mem_of_getElem? (l := VV.sr) (i := 18) rfl)
abbrev sl_M_247 := (List.mem_of_getElem? (l := VV.sr) (i := 19) rfl)
abbrev sl_M_249 := (List.mem_of_getElem? (l := VV.sr) (i := 20) rfl)
abbrev sl_M_251 := (List.mem_of_getElem? (l := VV.sr) (i := 21) rfl)
abbrev sl_M_253 := (List.mem_of_getElem? (l := VV.sr) (i := 22) rfl)
abbrev sl_M_255 := (List.mem_of_getElem? (l := VV.sr) (i := 23) rfl)
abbrev sl_M_257 := (List.mem_of_getElem? (l := VV.sr) (i := 24) rfl)
abbrev sl_M_259 := (List.mem_of_getElem? (l := VV.sr) (i := 25) rfl)
abbrev sl_M_261 := (List.mem_of_getElem? (l := VV.sr) (i := 26) rfl)
abbrev sl_M_263 := (List.mem_of_getElem? (l := VV.sr) (i := 27) rfl)
abbrev sl_M_265 := (List.mem_of_getElem? (l := VV.sr) (i := 28) rfl)
abbrev sl_M_267 := (List.mem_of_getElem? (l := VV.sr) (i := 29) rfl)
abbrev sl_M_269 := (List.mem_of_getElem? (l := VV.sr) (i := 30) rfl)
abbrev sl_M_271 := (List.mem_of_getElem? (l := VV.sr) (i := 31) rfl)
abbrev sl_M_273 := (List.mem_of_getElem? (l := VV.sr) (i := 32) rfl)
abbrev sl_M_275 := (List.mem_of_getElem? (l := VV.sr) (i := 33) rfl)
abbrev sl_M_277 := (List.mem_of_getElem? (l := VV.sr) (i := 34) rfl)
abbrev sl_M_279 := (List.mem_of_getElem? (l := VV.sr) (i := 35) rfl)
abbrev sl_M_281 := (List.mem_of_getElem? (l := VV.sr) (i := 36) rfl)
abbrev sl_M_283 := (List.mem_of_getElem? (l := VV.sr) (i := 37) rfl)
abbrev sl_M_285 := (List.mem_of_getElem? (l := VV.sr) (i := 38) rfl)
abbrev sl_M_287 := (List.mem_of_getElem? (l := VV.sr) (i := 39) rfl)
abbrev sl_M_289 := (List.mem_of_getElem? (l := VV.sr) (i := 40) rfl)
abbrev sl_M_291 := (List.mem_of_getElem? (l := VV.sr) (i := 41) rfl)
abbrev sl_M_293 := (List.mem_of_getElem? (l := VV.sr) (i := 42) rfl)
abbrev sl_M_295 := (List.mem_of_getElem? (l := VV.sr) (i := 43) rfl)
abbrev sl_M_297 := (List.mem_of_getElem? (l := VV.sr) (i := 44) rfl)
abbrev sl_M_371 := (List.mem_of_getElem? (l := VV.sr) (i := 45) rfl)
abbrev sl_M_369 := (List.mem_of_getElem? (l := VV.sr) (i := 46) rfl)
abbrev sl_O_171 := (List.mem_of_getElem? (l := VV.sr) (i := 47) rfl)
abbrev sl_O_285 := (List.mem_of_getElem? (l := VV.sr) (i := 48) rfl)
abbrev sl_O_288 := (List.mem_of_getElem? (l := VV.sr) (i := 49) rfl)
abbrev sl_O_180 := (List.mem_of_getElem? (l := VV.sr) (i := 50) rfl)
abbrev sl_O_177 := (List.mem_of_getElem? (l := VV.sr) (i := 51) rfl)
abbrev sl_O_183 := (List.mem_of_getElem? (l := VV.sr) (i := 52) rfl)
abbrev sl_O_213 := (List.mem_of_getElem? (l := VV.sr) (i := 53) rfl)
abbrev sl_O_225 := (List.mem_of_getElem? (l := VV.sr) (i := 54) rfl)
abbrev sl_O_234 := (List.mem_of_getElem? (l := VV.sr) (i := 55) rfl)
abbrev sl_O_228 := (List.mem_of_getElem? (l := VV.sr) (i := 56) rfl)
abbrev sl_O_237 := (List.mem_of_getElem? (l := VV.sr) (i := 57) rfl)
abbrev sl_O_240 := (List.mem_of_getElem? (l := VV.sr) (i := 58) rfl)
abbrev sl_O_264 := (List.mem_of_getElem? (l := VV.sr) (i := 59) rfl)
abbrev sl_O_282 := (List.mem_of_getElem? (l := VV.sr) (i := 60) rfl)
abbrev sl_O_279 := (List.mem_of_getElem? (l := VV.sr) (i := 61) rfl)
abbrev sl_O_186 := (List.mem_of_getElem? (l := VV.sr) (i := 62) rfl)
abbrev sl_O_189 := (List.mem_of_getElem? (l := VV.sr) (i := 63) rfl)
abbrev sl_O_192 := (List.mem_of_getElem? (l := VV.sr) (i := 64) rfl)
abbrev sl_O_195 := (List.mem_of_getElem? (l := VV.sr) (i := 65) rfl)
abbrev sl_O_198 := (List.mem_of_getElem? (l := VV.sr) (i := 66) rfl)
abbrev sl_O_201 := (List.mem_of_getElem? (l := VV.sr) (i := 67) rfl)
abbrev sl_O_204 := (List.mem_of_getElem? (l := VV.sr) (i := 68) rfl)
abbrev sl_O_207 := (List.mem_of_getElem? (l := VV.sr) (i := 69) rfl)
abbrev sl_O_210 := (List.mem_of_getElem? (l := VV.sr) (i := 70) rfl)
abbrev sl_O_216 := (List.mem_of_getElem? (l := VV.sr) (i := 71) rfl)
abbrev sl_O_219 := (List.mem_of_getElem? (l := VV.sr) (i := 72) rfl)
abbrev sl_O_222 := (List.mem_of_getElem? (l := VV.sr) (i := 73) rfl)
abbrev sl_O_231 := (List.mem_of_getElem? (l := VV.sr) (i := 74) rfl)
abbrev sl_O_243 := (List.mem_of_getElem? (l := VV.sr) (i := 75) rfl)
abbrev sl_O_246 := (List.mem_of_getElem? (l := VV.sr) (i := 76) rfl)
abbrev sl_O_249 := (List.mem_of_getElem? (l := VV.sr) (i := 77) rfl)
abbrev sl_O_252 := (List.mem_of_getElem? (l := VV.sr) (i := 78) rfl)
abbrev sl_O_255 := (List.mem_of_getElem? (l := VV.sr) (i := 79) rfl)
abbrev sl_O_258 := (List.mem_of_getElem? (l := VV.sr) (i := 80) rfl)
abbrev sl_O_261 := (List.mem_of_getElem? (l := VV.sr) (i := 81) rfl)
abbrev sl_O_267 := (List.mem_of_getElem? (l := VV.sr) (i := 82) rfl)
abbrev sl_O_270 := (List.mem_of_getElem? (l := VV.sr) (i := 83) rfl)
abbrev sl_O_273 := (List.mem_of_getElem? (l := VV.sr) (i := 84) rfl)
abbrev sl_O_276 := (List.mem_of_getElem? (l := VV.sr) (i := 85) rfl)
theorem ac_JArrays_150 : ax_AC VV "java/util/Arrays" 150 := ⟨mt2 (List.mem_of_getElem? (i := 141) rfl), mt2 (List.mem_of_getElem? (i := 143) rfl), mt2 (List.mem_of_getElem? (i := 142) rfl), mt1 (List.mem_of_getElem? (i := 14) rfl)⟩
theorem ac_G_29 : ax_AC VV "NumberFunctions$Program" 29 := ⟨mt3 (List.mem_of_getElem? (i := 133) rfl), mt2 (List.mem_of_getElem? (i := 143) rfl), mt2 (List.mem_of_getElem? (i := 142) rfl), mt1 (List.mem_of_getElem? (i := 14) rfl)⟩
theorem ac_N_123 : ax_AC VV "NumberFunctions" 123 := ⟨mt3 (List.mem_of_getElem? (i := 189) rfl), mt2 (List.mem_of_getElem? (i := 143) rfl), mt2 (List.mem_of_getElem? (i := 142) rfl), mt1 (List.mem_of_getElem? (i := 14) rfl)⟩
theorem ac_K_180 : ax_AC VV "NumberFunctions$Machine" 180 := ⟨mt4 (List.mem_of_getElem? (i := 135) rfl), mt2 (List.mem_of_getElem? (i := 143) rfl), mt2 (List.mem_of_getElem? (i := 142) rfl), mt1 (List.mem_of_getElem? (i := 14) rfl)⟩
theorem cn_JArrays_316 : ax_CN VV "java/util/Arrays" 316 "[I" := ⟨mt2 (List.mem_of_getElem? (i := 131) rfl), mt2 (List.mem_of_getElem? (i := 132) rfl), mt2 (List.mem_of_getElem? (i := 133) rfl), mt2 (List.mem_of_getElem? (i := 134) rfl), mt2 (List.mem_of_getElem? (i := 135) rfl), List.mem_of_getElem? (i := 2) rfl⟩
theorem cn_JArrays_310 : ax_CN VV "java/util/Arrays" 310 "[B" := ⟨mt2 (List.mem_of_getElem? (i := 156) rfl), mt2 (List.mem_of_getElem? (i := 157) rfl), mt2 (List.mem_of_getElem? (i := 133) rfl), mt2 (List.mem_of_getElem? (i := 134) rfl), mt2 (List.mem_of_getElem? (i := 158) rfl), List.mem_of_getElem? (i := 3) rfl⟩
theorem ck_L_8 : Cond.classLink "NumberFunctionsLaw" 8 "NumberFunctions" ∈ VV.ts := mt1 (List.mem_of_getElem? (i := 29) rfl)
theorem ck_N_17 : Cond.classLink "NumberFunctions" 17 "NumberFunctions$Telling" ∈ VV.ts := mt1 (List.mem_of_getElem? (i := 37) rfl)
theorem ck_N_24 : Cond.classLink "NumberFunctions" 24 "NumberFunctions$Function" ∈ VV.ts := mt1 (List.mem_of_getElem? (i := 54) rfl)
theorem ck_N_43 : Cond.classLink "NumberFunctions" 43 "NumberFunctions$Fault" ∈ VV.ts := mt1 (List.mem_of_getElem? (i := 56) rfl)
theorem ck_N_50 : Cond.classLink "NumberFunctions" 50 "NumberFunctions$Reader" ∈ VV.ts := mt1 (List.mem_of_getElem? (i := 71) rfl)
theorem ck_R_9 : Cond.classLink "NumberFunctions$Reader" 9 "NumberFunctions$Word" ∈ VV.ts := mt1 (List.mem_of_getElem? (i := 77) rfl)
theorem ck_N_57 : Cond.classLink "NumberFunctions" 57 "NumberFunctions$Machine" ∈ VV.ts := mt1 (List.mem_of_getElem? (i := 124) rfl)
theorem ck_L_13 : Cond.classLink "NumberFunctionsLaw" 13 "java/lang/IllegalArgumentException" ∈ VV.ts := mt1 (List.mem_of_getElem? (i := 204) rfl)
theorem ck_N_68 : Cond.classLink "NumberFunctions" 68 "java/lang/IllegalArgumentException" ∈ VV.ts := mt1 (List.mem_of_getElem? (i := 209) rfl)
theorem ck_L_18 : Cond.classLink "NumberFunctionsLaw" 18 "java/lang/IllegalStateException" ∈ VV.ts := mt2 (List.mem_of_getElem? (i := 42) rfl)
theorem ck_N_90 : Cond.classLink "NumberFunctions" 90 "java/lang/IllegalStateException" ∈ VV.ts := mt2 (List.mem_of_getElem? (i := 53) rfl)
theorem ck_JArrays_317 : Cond.classLink "java/util/Arrays" 317 "[I" ∈ VV.ts := mt2 (List.mem_of_getElem? (i := 137) rfl)
theorem ck_N_194 : Cond.classLink "NumberFunctions" 194 "NumberFunctions$Samples" ∈ VV.ts := mt2 (List.mem_of_getElem? (i := 151) rfl)
theorem ck_JArrays_311 : Cond.classLink "java/util/Arrays" 311 "[B" ∈ VV.ts := mt2 (List.mem_of_getElem? (i := 160) rfl)
theorem ck_N_160 : Cond.classLink "NumberFunctions" 160 "NumberFunctions$Powers" ∈ VV.ts := mt2 (List.mem_of_getElem? (i := 213) rfl)
theorem ck_N_165 : Cond.classLink "NumberFunctions" 165 "NumberFunctions$Stitched" ∈ VV.ts := mt2 (List.mem_of_getElem? (i := 223) rfl)
theorem ck_Z_4 : Cond.classLink "NumberFunctions$Stitched" 4 "NumberFunctions$Function" ∈ VV.ts := mt2 (List.mem_of_getElem? (i := 229) rfl)
theorem ck_N_174 : Cond.classLink "NumberFunctions" 174 "NumberFunctions$Program" ∈ VV.ts := mt3 (List.mem_of_getElem? (i := 126) rfl)
theorem ck_G_22 : Cond.classLink "NumberFunctions$Program" 22 "NumberFunctions$Word" ∈ VV.ts := mt3 (List.mem_of_getElem? (i := 132) rfl)
theorem ck_L_31 : Cond.classLink "NumberFunctionsLaw" 31 "java/lang/IndexOutOfBoundsException" ∈ VV.ts := mt3 (List.mem_of_getElem? (i := 168) rfl)
theorem ck_N_118 : Cond.classLink "NumberFunctions" 118 "java/lang/IndexOutOfBoundsException" ∈ VV.ts := mt3 (List.mem_of_getElem? (i := 173) rfl)
theorem ck_L_37 : Cond.classLink "NumberFunctionsLaw" 37 "NumberFunctionsModel" ∈ VV.ts := mt4 (List.mem_of_getElem? (i := 199) rfl)
theorem cu_N_129_S : ax_CU VV "NumberFunctions" 129 "NumberFunctions$Function" "NumberFunctions$Samples" ⟨"NumberFunctions$Function", "evaluate", "([I[ILNumberFunctions$Fault;)V"⟩ S_evaluate_y S_evaluate_c 9 none 3 := ⟨mt3 (List.mem_of_getElem? (i := 190) rfl), mt3 (List.mem_of_getElem? (i := 192) rfl), mt4 (List.mem_of_getElem? (i := 149) rfl), mt4 (List.mem_of_getElem? (i := 150) rfl), mt1 (List.mem_of_getElem? (i := 16) rfl), mt4 (List.mem_of_getElem? (i := 151) rfl), List.mem_of_getElem? (i := 6) rfl, by decide +kernel⟩
theorem cu_N_129_P : ax_CU VV "NumberFunctions" 129 "NumberFunctions$Function" "NumberFunctions$Powers" ⟨"NumberFunctions$Function", "evaluate", "([I[ILNumberFunctions$Fault;)V"⟩ P_evaluate_y P_evaluate_c 11 none 3 := ⟨mt3 (List.mem_of_getElem? (i := 190) rfl), mt3 (List.mem_of_getElem? (i := 192) rfl), mt3 (List.mem_of_getElem? (i := 193) rfl), mt3 (List.mem_of_getElem? (i := 194) rfl), mt1 (List.mem_of_getElem? (i := 17) rfl), mt3 (List.mem_of_getElem? (i := 195) rfl), List.mem_of_getElem? (i := 6) rfl, by decide +kernel⟩
theorem cu_N_129_Z : ax_CU VV "NumberFunctions" 129 "NumberFunctions$Function" "NumberFunctions$Stitched" ⟨"NumberFunctions$Function", "evaluate", "([I[ILNumberFunctions$Fault;)V"⟩ Z_evaluate_y Z_evaluate_c 12 none 3 := ⟨mt3 (List.mem_of_getElem? (i := 190) rfl), mt3 (List.mem_of_getElem? (i := 192) rfl), mt4 (List.mem_of_getElem? (i := 183) rfl), mt4 (List.mem_of_getElem? (i := 184) rfl), mt1 (List.mem_of_getElem? (i := 18) rfl), mt4 (List.mem_of_getElem? (i := 185) rfl), List.mem_of_getElem? (i := 6) rfl, by decide +kernel⟩
theorem cu_N_129_G : ax_CU VV "NumberFunctions" 129 "NumberFunctions$Function" "NumberFunctions$Program" ⟨"NumberFunctions$Function", "evaluate", "([I[ILNumberFunctions$Fault;)V"⟩ G_evaluate_y G_evaluate_c 9 none 3 := ⟨mt3 (List.mem_of_getElem? (i := 190) rfl), mt3 (List.mem_of_getElem? (i := 192) rfl), mt3 (List.mem_of_getElem? (i := 223) rfl), mt3 (List.mem_of_getElem? (i := 224) rfl), mt1 (List.mem_of_getElem? (i := 25) rfl), mt3 (List.mem_of_getElem? (i := 225) rfl), List.mem_of_getElem? (i := 6) rfl, by decide +kernel⟩
theorem cu_P_9_P : ax_CU VV "NumberFunctions$Powers" 9 "NumberFunctions$Function" "NumberFunctions$Powers" ⟨"NumberFunctions$Powers", "withinPair", "(II)I"⟩ F_withinPair_y F_withinPair_c 3 (some .int) 2 := ⟨mt3 (List.mem_of_getElem? (i := 196) rfl), mt3 (List.mem_of_getElem? (i := 197) rfl), mt3 (List.mem_of_getElem? (i := 199) rfl), mt3 (List.mem_of_getElem? (i := 200) rfl), mt1 (List.mem_of_getElem? (i := 15) rfl), mt3 (List.mem_of_getElem? (i := 201) rfl), List.mem_of_getElem? (i := 7) rfl, by decide +kernel⟩
theorem cu_G_62_G : ax_CU VV "NumberFunctions$Program" 62 "NumberFunctions$Function" "NumberFunctions$Program" ⟨"NumberFunctions$Program", "withinPair", "(II)I"⟩ F_withinPair_y F_withinPair_c 3 (some .int) 2 := ⟨mt3 (List.mem_of_getElem? (i := 226) rfl), mt3 (List.mem_of_getElem? (i := 227) rfl), mt3 (List.mem_of_getElem? (i := 228) rfl), mt3 (List.mem_of_getElem? (i := 200) rfl), mt1 (List.mem_of_getElem? (i := 15) rfl), mt3 (List.mem_of_getElem? (i := 201) rfl), List.mem_of_getElem? (i := 7) rfl, by decide +kernel⟩
theorem cu_K_105_O : ax_CU VV "NumberFunctions$Machine" 105 "java/lang/Enum" "NumberFunctions$Word" ⟨"NumberFunctions$Word", "ordinal", "()I"⟩ JEnum_ordinal_y JEnum_ordinal_c 1 (some .int) 0 := ⟨mt4 (List.mem_of_getElem? (i := 21) rfl), mt4 (List.mem_of_getElem? (i := 22) rfl), mt4 (List.mem_of_getElem? (i := 24) rfl), mt4 (List.mem_of_getElem? (i := 25) rfl), mt1 (List.mem_of_getElem? (i := 19) rfl), mt4 (List.mem_of_getElem? (i := 26) rfl), List.mem_of_getElem? (i := 8) rfl, by decide +kernel⟩
theorem cu_S_55_S : ax_CU VV "NumberFunctions$Samples" 55 "NumberFunctions$Function" "NumberFunctions$Samples" ⟨"NumberFunctions$Samples", "withinPair", "(II)I"⟩ F_withinPair_y F_withinPair_c 3 (some .int) 2 := ⟨mt4 (List.mem_of_getElem? (i := 156) rfl), mt4 (List.mem_of_getElem? (i := 157) rfl), mt4 (List.mem_of_getElem? (i := 158) rfl), mt3 (List.mem_of_getElem? (i := 200) rfl), mt1 (List.mem_of_getElem? (i := 15) rfl), mt3 (List.mem_of_getElem? (i := 201) rfl), List.mem_of_getElem? (i := 7) rfl, by decide +kernel⟩
theorem cu_Z_15_Z : ax_CU VV "NumberFunctions$Stitched" 15 "NumberFunctions$Function" "NumberFunctions$Stitched" ⟨"NumberFunctions$Stitched", "withinPair", "(II)I"⟩ F_withinPair_y F_withinPair_c 3 (some .int) 2 := ⟨mt4 (List.mem_of_getElem? (i := 186) rfl), mt4 (List.mem_of_getElem? (i := 187) rfl), mt4 (List.mem_of_getElem? (i := 188) rfl), mt3 (List.mem_of_getElem? (i := 200) rfl), mt1 (List.mem_of_getElem? (i := 15) rfl), mt3 (List.mem_of_getElem? (i := 201) rfl), List.mem_of_getElem? (i := 7) rfl, by decide +kernel⟩
theorem cu_Z_29_S : ax_CU VV "NumberFunctions$Stitched" 29 "NumberFunctions$Function" "NumberFunctions$Samples" ⟨"NumberFunctions$Function", "evaluate", "([I[ILNumberFunctions$Fault;)V"⟩ S_evaluate_y S_evaluate_c 9 none 3 := ⟨mt4 (List.mem_of_getElem? (i := 190) rfl), mt3 (List.mem_of_getElem? (i := 192) rfl), mt4 (List.mem_of_getElem? (i := 149) rfl), mt4 (List.mem_of_getElem? (i := 150) rfl), mt1 (List.mem_of_getElem? (i := 16) rfl), mt4 (List.mem_of_getElem? (i := 151) rfl), List.mem_of_getElem? (i := 6) rfl, by decide +kernel⟩
theorem cu_Z_29_P : ax_CU VV "NumberFunctions$Stitched" 29 "NumberFunctions$Function" "NumberFunctions$Powers" ⟨"NumberFunctions$Function", "evaluate", "([I[ILNumberFunctions$Fault;)V"⟩ P_evaluate_y P_evaluate_c 11 none 3 := ⟨mt4 (List.mem_of_getElem? (i := 190) rfl), mt3 (List.mem_of_getElem? (i := 192) rfl), mt3 (List.mem_of_getElem? (i := 193) rfl), mt3 (List.mem_of_getElem? (i := 194) rfl), mt1 (List.mem_of_getElem? (i := 17) rfl), mt3 (List.mem_of_getElem? (i := 195) rfl), List.mem_of_getElem? (i := 6) rfl, by decide +kernel⟩
theorem cu_Z_29_Z : ax_CU VV "NumberFunctions$Stitched" 29 "NumberFunctions$Function" "NumberFunctions$Stitched" ⟨"NumberFunctions$Function", "evaluate", "([I[ILNumberFunctions$Fault;)V"⟩ Z_evaluate_y Z_evaluate_c 12 none 3 := ⟨mt4 (List.mem_of_getElem? (i := 190) rfl), mt3 (List.mem_of_getElem? (i := 192) rfl), mt4 (List.mem_of_getElem? (i := 183) rfl), mt4 (List.mem_of_getElem? (i := 184) rfl), mt1 (List.mem_of_getElem? (i := 18) rfl), mt4 (List.mem_of_getElem? (i := 185) rfl), List.mem_of_getElem? (i := 6) rfl, by decide +kernel⟩
theorem cu_Z_29_G : ax_CU VV "NumberFunctions$Stitched" 29 "NumberFunctions$Function" "NumberFunctions$Program" ⟨"NumberFunctions$Function", "evaluate", "([I[ILNumberFunctions$Fault;)V"⟩ G_evaluate_y G_evaluate_c 9 none 3 := ⟨mt4 (List.mem_of_getElem? (i := 190) rfl), mt3 (List.mem_of_getElem? (i := 192) rfl), mt3 (List.mem_of_getElem? (i := 223) rfl), mt3 (List.mem_of_getElem? (i := 224) rfl), mt1 (List.mem_of_getElem? (i := 25) rfl), mt3 (List.mem_of_getElem? (i := 225) rfl), List.mem_of_getElem? (i := 6) rfl, by decide +kernel⟩
end
section
/-! states: normal forms; locals picked anew -/
theorem upd_upd (f : Nat → Int32) (k : Nat) (x z : Int32) : upd (upd f k x) k z = upd f k z := by
  funext j
  unfold upd
  by_cases h : j = k <;> simp [h]
theorem updL_updL (f : Nat → Int64) (k : Nat) (x z : Int64) : vp_updL (vp_updL f k x) k z = vp_updL f k z := by
  funext j
  unfold vp_updL
  by_cases h : j = k <;> simp [h]
def y_A (M : x_M) (k : Nat) (f : Nat → Int32) : x_M := (M.1, va_up M.2.1 k f, M.2.2)
def y_L (M : x_M) (k : Nat) (f : Nat → Int64) : x_M := (M.1, M.2.1, va_up M.2.2 k f)
def x_A (S : x_S) (k : Nat) (f : Nat → Int32) : x_S := (S.1, va_up S.2.1 k f, S.2.2)
def x_R (S : x_S) (k : Nat) (f : Nat → Option Nat) : x_S := (S.1, S.2.1, va_up S.2.2.1 k f, S.2.2.2)
theorem va_up_id {α : Type} (f : Nat → α) (k : Nat) : va_up f k (f k) = f := by
  funext j
  unfold va_up
  by_cases h : j = k <;> simp [h]
theorem y_ii (M : x_M) (k : Nat) (x z : Int32) : y_i (y_i M k x) k z = y_i M k z := by
  unfold y_i
  rw [upd_upd]
theorem x_ii (S : x_S) (k : Nat) (x z : Int32) : x_i (x_i S k x) k z = x_i S k z := by
  unfold x_i
  rw [upd_upd]
theorem y_aA (M : x_M) (k j : Nat) (f : Nat → Int32) (x : Int32) : y_a (y_A M k f) k j x = y_A M k (upd f j x) := by
  simp only [y_a, y_A, va_up_self, bx_uu]
theorem y_lL (M : x_M) (k j : Nat) (f : Nat → Int64) (x : Int64) : y_l (y_L M k f) k j x = y_L M k (vp_updL f j x) := by
  simp only [y_l, y_L, va_up_self, bx_uu]
theorem x_aA (S : x_S) (k j : Nat) (f : Nat → Int32) (x : Int32) : x_a (x_A S k f) k j x = x_A S k (upd f j x) := by
  simp only [x_a, x_A, va_up_self, bx_uu]
theorem y_A0 (M : x_M) (k : Nat) : y_A M k (M.2.1 k) = M := by
  unfold y_A
  rw [va_up_id]
theorem y_L0 (M : x_M) (k : Nat) : y_L M k (M.2.2 k) = M := by
  unfold y_L
  rw [va_up_id]
theorem x_A0 (S : x_S) (k : Nat) : x_A S k (S.2.1 k) = S := by
  unfold x_A
  rw [va_up_id]
theorem nI_o1 (k : Nat) : nI k + Int32.ofInt 1 = nI (k + 1) := nI_1 k
theorem nI_b (n : Nat) : Int32.ofInt (n : Int) = nI n := Int32.ofInt_eq_ofNat
section AXPK
variable {p : Program} {l : Launch} {e : Env} {R : Room} {s : State} {m : MethodId} {args : Array Value} {below : List Frame} {meth : Method} {c : Code} {V : ax_V} {G : ax_G} {nL : Nat} {cells slots : Nat} {Q : State → Prop} {pc : Nat} {lv : List (Nat × Value)} {r : List Value} {h : List va_E}
theorem AW.pk {lv' : List (Nat × Value)} (ks : List Nat) (e1 : lv_pick lv ks = lv') (kk : AW p l e R s m args below meth c V G nL h cells slots Q pc lv' r) : AW p l e R s m args below meth c V G nL h cells slots Q pc lv r :=
  AW.sub (fun q hq => by
    subst e1
    obtain ⟨i, -, hi⟩ := List.mem_filterMap.mp hq
    exact List.mem_of_getElem? hi) kk
end AXPK
end
section
/-! arithmetic: java.lang.Math, the class's Numbers, the reference's own -/
theorem lc_lt {a b : Int} (ha : zL a) (hb : zL b) : lg_cmp (lZ a) (lZ b) < 0 ↔ a < b := (lg_cmp_lt _ _).trans (lZ_lt ha hb)
theorem lc_gt {a b : Int} (ha : zL a) (hb : zL b) : 0 < lg_cmp (lZ a) (lZ b) ↔ b < a := (lg_cmp_gt _ _).trans (lZ_lt hb ha)
theorem lc_le {a b : Int} (ha : zL a) (hb : zL b) : lg_cmp (lZ a) (lZ b) ≤ 0 ↔ a ≤ b := (lg_cmp_le _ _).trans (lZ_le ha hb)
theorem lc_ge {a b : Int} (ha : zL a) (hb : zL b) : 0 ≤ lg_cmp (lZ a) (lZ b) ↔ b ≤ a := (lg_cmp_ge _ _).trans (lZ_le hb ha)
theorem lc_eq {a b : Int} (ha : zL a) (hb : zL b) : lg_cmp (lZ a) (lZ b) = 0 ↔ a = b := (lg_cmp_eq _ _).trans (lZ_eq ha hb)
theorem lx_neg (x y : Int64) : (x ^^^ y).toInt < 0 ↔ ¬ (x.toInt < 0 ↔ y.toInt < 0) := by
  have h1 := BitVec.msb_eq_toInt (x := x.toBitVec)
  have h2 := BitVec.msb_eq_toInt (x := y.toBitVec)
  have h3 := BitVec.msb_eq_toInt (x := (x ^^^ y).toBitVec)
  rw [Int64.toBitVec_xor, BitVec.msb_xor, h1, h2] at h3
  have h4 : decide ((x ^^^ y).toInt < 0) = (decide (x.toInt < 0) ^^ decide (y.toInt < 0)) := by
    exact h3.symm
  by_cases a : x.toInt < 0 <;> by_cases b : y.toInt < 0 <;> simp [a, b] at h4 ⊢ <;> omega
def zcut (v lo hi : Int) : Int := if v < lo then lo else if hi < v then hi else v
/-- a number cut to -2^30 .. 2^30 -/
def zk (v : Int) : Int := zcut v (-1073741824) 1073741824
def ztimes (a b : Int) : Int := zk ((a * b).fdiv 65536)
def zlaid (x p q r s : Int) : Int := if p = q then r else zk (r + ((x - p) * (s - r)).fdiv (q - p))
/-- a number of the document -/
def zN (z : Int) : Prop := -1073741824 ≤ z ∧ z ≤ 1073741824
theorem zk_N (v : Int) : zN (zk v) := by
  unfold zk zcut zN
  split
  · omega
  · split <;> omega
theorem zN_L {z : Int} (h : zN z) : zL z := ⟨by have := h.1; omega, by have := h.2; omega⟩
theorem zN_I {z : Int} (h : zN z) : zI z := ⟨by have := h.1; omega, by have := h.2; omega⟩
theorem zk_id {z : Int} (h : zN z) : zk z = z := by
  unfold zk zcut
  have := h.1
  have := h.2
  rw [if_neg (by omega), if_neg (by omega)]
set_option maxHeartbeats 4000000 in
set_option maxRecDepth 100000 in
theorem JMath_max1_m {l : Launch} {G : ax_G} {h : List va_E} (x y : Int32) :
    AM l VV G JMath_max1_y JMath_max1_c 2 (some .int) 0 0 0 [.int x, .int y] (h) (fun v h' => v = some (.int (if x < y then y else x)) ∧ h' = h) := by
  refine AM.ofF (pl := pl_JMath) JMath_max1_pf v_good fl_JMath_ok kl_JMath_ok nofun (Nat.le_of_ble_eq_true rfl) ?_
  intro p e s m args below meth c X
  refine AW.run X JMath_max1_d 0 2 rfl ?_
  refine AW.icmp_lt X (JMath_max1_d.d 2 rfl) (fun q2 => ?_) (fun q2 => ?_)
  · refine AW.run X JMath_max1_d 5 1 rfl ?_
    exact AW.iret X (JMath_max1_d.d 6 rfl) (Nat.le_of_ble_eq_true rfl) (Nat.le_of_ble_eq_true rfl) ⟨by rw [if_pos q2], rfl⟩
  · refine AW.run X JMath_max1_d 3 1 rfl ?_
    refine AW.goto X (JMath_max1_d.d 4 rfl) ?_
    exact AW.iret X (JMath_max1_d.d 6 rfl) (Nat.le_of_ble_eq_true rfl) (Nat.le_of_ble_eq_true rfl) ⟨by rw [if_neg q2], rfl⟩

set_option maxHeartbeats 4000000 in
set_option maxRecDepth 100000 in
theorem JMath_min1_m {l : Launch} {G : ax_G} {h : List va_E} (x y : Int32) :
    AM l VV G JMath_min1_y JMath_min1_c 2 (some .int) 0 0 0 [.int x, .int y] (h) (fun v h' => v = some (.int (if y < x then y else x)) ∧ h' = h) := by
  refine AM.ofF (pl := pl_JMath) JMath_min1_pf v_good fl_JMath_ok kl_JMath_ok nofun (Nat.le_of_ble_eq_true rfl) ?_
  intro p e s m args below meth c X
  refine AW.run X JMath_min1_d 0 2 rfl ?_
  refine AW.icmp_gt X (JMath_min1_d.d 2 rfl) (fun q2 => ?_) (fun q2 => ?_)
  · refine AW.run X JMath_min1_d 5 1 rfl ?_
    exact AW.iret X (JMath_min1_d.d 6 rfl) (Nat.le_of_ble_eq_true rfl) (Nat.le_of_ble_eq_true rfl) ⟨by rw [if_pos q2], rfl⟩
  · refine AW.run X JMath_min1_d 3 1 rfl ?_
    refine AW.goto X (JMath_min1_d.d 4 rfl) ?_
    exact AW.iret X (JMath_min1_d.d 6 rfl) (Nat.le_of_ble_eq_true rfl) (Nat.le_of_ble_eq_true rfl) ⟨by rw [if_neg q2], rfl⟩

set_option maxHeartbeats 4000000 in
set_option maxRecDepth 100000 in
theorem JMath_min2_m {l : Launch} {G : ax_G} {h : List va_E} (x y : Int64) :
    AM l VV G JMath_min2_y JMath_min2_c 4 (some .long) 0 0 0 [.long x, .long y] (h) (fun v h' => v = some (.long (if y < x then y else x)) ∧ h' = h) := by
  refine AM.ofF (pl := pl_JMath) JMath_min2_pf v_good fl_JMath_ok kl_JMath_ok nofun (Nat.le_of_ble_eq_true rfl) ?_
  intro p e s m args below meth c X
  refine AW.run X JMath_min2_d 0 3 rfl ?_
  refine AW.if_gt X (JMath_min2_d.d 3 rfl) (fun q3 => ?_) (fun q3 => ?_)
  · refine AW.run X JMath_min2_d 6 1 rfl ?_
    exact AW.lret X (JMath_min2_d.d 7 rfl) (Nat.le_of_ble_eq_true rfl) (Nat.le_of_ble_eq_true rfl) ⟨by rw [if_pos ((lg_cmp_gt _ _).mp q3)], rfl⟩
  · refine AW.run X JMath_min2_d 4 1 rfl ?_
    refine AW.goto X (JMath_min2_d.d 5 rfl) ?_
    exact AW.lret X (JMath_min2_d.d 7 rfl) (Nat.le_of_ble_eq_true rfl) (Nat.le_of_ble_eq_true rfl) ⟨by rw [if_neg (fun z => q3 ((lg_cmp_gt _ _).mpr z))], rfl⟩

set_option maxHeartbeats 4000000 in
set_option maxRecDepth 100000 in
theorem JMath_max2_m {l : Launch} {G : ax_G} {h : List va_E} (x y : Int64) :
    AM l VV G JMath_max2_y JMath_max2_c 4 (some .long) 0 0 0 [.long x, .long y] (h) (fun v h' => v = some (.long (if x < y then y else x)) ∧ h' = h) := by
  refine AM.ofF (pl := pl_JMath) JMath_max2_pf v_good fl_JMath_ok kl_JMath_ok nofun (Nat.le_of_ble_eq_true rfl) ?_
  intro p e s m args below meth c X
  refine AW.run X JMath_max2_d 0 3 rfl ?_
  refine AW.if_lt X (JMath_max2_d.d 3 rfl) (fun q3 => ?_) (fun q3 => ?_)
  · refine AW.run X JMath_max2_d 6 1 rfl ?_
    exact AW.lret X (JMath_max2_d.d 7 rfl) (Nat.le_of_ble_eq_true rfl) (Nat.le_of_ble_eq_true rfl) ⟨by rw [if_pos ((lg_cmp_lt _ _).mp q3)], rfl⟩
  · refine AW.run X JMath_max2_d 4 1 rfl ?_
    refine AW.goto X (JMath_max2_d.d 5 rfl) ?_
    exact AW.lret X (JMath_max2_d.d 7 rfl) (Nat.le_of_ble_eq_true rfl) (Nat.le_of_ble_eq_true rfl) ⟨by rw [if_neg (fun z => q3 ((lg_cmp_lt _ _).mpr z))], rfl⟩

set_option maxHeartbeats 4000000 in
set_option maxRecDepth 100000 in
theorem JMath_abs_m {l : Launch} {G : ax_G} {h : List va_E} (x : Int32) :
    AM l VV G JMath_abs_y JMath_abs_c 1 (some .int) 0 0 0 [.int x] (h) (fun v h' => v = some (.int (if 0 ≤ x then x else -x)) ∧ h' = h) := by
  refine AM.ofF (pl := pl_JMath) JMath_abs_pf v_good fl_JMath_ok kl_JMath_ok nofun (Nat.le_of_ble_eq_true rfl) ?_
  intro p e s m args below meth c X
  refine AW.run X JMath_abs_d 0 1 rfl ?_
  refine AW.if_ge X (JMath_abs_d.d 1 rfl) (fun q1 => ?_) (fun q1 => ?_)
  · refine AW.run X JMath_abs_d 5 1 rfl ?_
    exact AW.iret X (JMath_abs_d.d 6 rfl) (Nat.le_of_ble_eq_true rfl) (Nat.le_of_ble_eq_true rfl) ⟨by rw [if_pos q1], rfl⟩
  · refine AW.run X JMath_abs_d 2 2 rfl ?_
    refine AW.goto X (JMath_abs_d.d 4 rfl) ?_
    exact AW.iret X (JMath_abs_d.d 6 rfl) (Nat.le_of_ble_eq_true rfl) (Nat.le_of_ble_eq_true rfl) ⟨by rw [if_neg q1], rfl⟩

theorem zfd {a b : Int} (hb : b ≠ 0) : a.fdiv b = if (¬ (a < 0 ↔ b < 0)) ∧ a.tdiv b * b ≠ a then a.tdiv b - 1 else a.tdiv b := by
  rw [Int.fdiv_eq_tdiv]
  have hd : b ∣ a ↔ a.tdiv b * b = a := by
    rw [Int.tdiv_mul_self]
    constructor
    · intro h
      rw [Int.tmod_eq_zero_of_dvd h]
      omega
    · intro h
      exact Int.dvd_of_tmod_eq_zero (by omega)
  by_cases h1 : b ∣ a
  · rw [if_pos h1, if_neg (fun q => q.2 (hd.mp h1))]
    omega
  · have h2 : ¬ a.tdiv b * b = a := fun q => h1 (hd.mpr q)
    have ha : a ≠ 0 := fun q => h1 (by rw [q]; exact Int.dvd_zero b)
    rw [if_neg h1]
    by_cases s1 : 0 ≤ a <;> by_cases s2 : 0 ≤ b
    · rw [if_pos s1, if_pos s2, if_neg (fun q => q.1 (by omega))]; omega
    · rw [if_pos s1, if_neg s2, if_pos ⟨by omega, h2⟩]
    · rw [if_neg s1, if_pos s2, if_pos ⟨by omega, h2⟩, Int.sign_eq_one_of_pos (by omega)]
    · rw [if_neg s1, if_neg s2, if_neg (fun q => q.1 (by omega)), Int.sign_eq_neg_one_of_neg (by omega)]; omega
set_option maxHeartbeats 4000000 in
set_option maxRecDepth 100000 in
theorem JMath_floorDiv_m {l : Launch} {G : ax_G} {h : List va_E} (a b : Int) (ha : zL a) (hb : zL b) (h0 : b ≠ 0) (hn : a ≠ -9223372036854775808 ∨ b ≠ -1) :
    AM l VV G JMath_floorDiv_y JMath_floorDiv_c 6 (some .long) 0 0 0 [.long (lZ a), .long (lZ b)] (h) (fun v h' => v = some (.long (lZ (a.fdiv b))) ∧ h' = h) := by
  refine AM.ofF (pl := pl_JMath) JMath_floorDiv_pf v_good fl_JMath_ok kl_JMath_ok nofun (Nat.le_of_ble_eq_true rfl) ?_
  intro p e s m args below meth c X
  have JD := lZ_div ha hb hn
  have JQ := zfd (a := a) h0
  have JX : ¬ (a < 0 ↔ b < 0) ↔ ¬ 0 ≤ lg_cmp (lZ a ^^^ lZ b) (Int64.ofNat ((0 : Fin 2) : Nat)) := by
    rw [lg_cmp_ge, Int64.le_iff_toInt_le]
    have h1 := lx_neg (lZ a) (lZ b)
    rw [lZ_t ha, lZ_t hb] at h1
    have h2 : (Int64.ofNat ((0 : Fin 2) : Nat)).toInt = 0 := by decide
    rw [h2, ← h1]
    omega
  have JM : lg_cmp (lZ (a.tdiv b) * lZ b) (lZ a) = 0 ↔ a.tdiv b * b = a := by
    rw [lZ_mul]
    refine lc_eq ?_ ha
    have h1 := Int.tdiv_mul_self a b
    have h2 : (a.tmod b).natAbs ≤ a.natAbs := by rw [Int.natAbs_tmod]; exact Nat.mod_le _ _
    have h3 : 0 ≤ a → 0 ≤ a.tmod b := fun q => Int.tmod_nonneg b q
    have h4 : a ≤ 0 → a.tmod b ≤ 0 := fun q => by
      have := Int.tmod_nonneg (a := -a) b (by omega)
      rw [Int.neg_tmod] at this
      omega
    have := ha.1
    have := ha.2
    exact ⟨by omega, by omega⟩
  refine AW.run X JMath_floorDiv_d 0 2 rfl ?_
  refine AW.ldiv X (JMath_floorDiv_d.d 2 rfl) (fun q => h0 ((lZ_eq hb (b := 0) ⟨by decide, by decide⟩).mp q)) ?_
  rw [JD]
  refine AW.run X JMath_floorDiv_d 3 6 rfl ?_
  refine AW.if_ge X (JMath_floorDiv_d.d 9 rfl) (fun q9 => ?_) (fun q9 => ?_)
  · refine AW.run X JMath_floorDiv_d 20 1 rfl ?_
    exact AW.lret X (JMath_floorDiv_d.d 21 rfl) (Nat.le_of_ble_eq_true rfl) (Nat.le_of_ble_eq_true rfl) ⟨by rw [JQ, if_neg (fun z => JX.mp z.1 q9)], rfl⟩
  · refine AW.run X JMath_floorDiv_d 10 5 rfl ?_
    refine AW.if_eq X (JMath_floorDiv_d.d 15 rfl) (fun q15 => ?_) (fun q15 => ?_)
    · refine AW.run X JMath_floorDiv_d 20 1 rfl ?_
      exact AW.lret X (JMath_floorDiv_d.d 21 rfl) (Nat.le_of_ble_eq_true rfl) (Nat.le_of_ble_eq_true rfl) ⟨by rw [JQ, if_neg (fun z => z.2 (JM.mp q15))], rfl⟩
    · refine AW.run X JMath_floorDiv_d 16 3 rfl ?_
      exact AW.lret X (JMath_floorDiv_d.d 19 rfl) (Nat.le_of_ble_eq_true rfl) (Nat.le_of_ble_eq_true rfl) ⟨by rw [JQ, if_pos ⟨JX.mpr q9, fun z => q15 (JM.mpr z)⟩, lZ_c1, lZ_sub], rfl⟩

set_option maxHeartbeats 4000000 in
set_option maxRecDepth 100000 in
theorem M_cutTo_m {l : Launch} {G : ax_G} {h : List va_E} (v lo hi : Int) (hv : zL v) (hlo : zL lo) (hhi : zL hi) :
    AM l VV G M_cutTo_y M_cutTo_c 6 (some .long) 0 0 0 [.long (lZ v), .long (lZ lo), .long (lZ hi)] (h) (fun w h' => w = some (.long (lZ (zcut v lo hi))) ∧ h' = h) := by
  refine AM.of (pl := pl_M) (by decide) v_good fl_M_ok kl_M_ok nofun (Nat.le_of_ble_eq_true rfl) ?_
  intro p e s m args below meth c X
  refine AW.run X M_cutTo_d 0 3 rfl ?_
  refine AW.if_ge X (M_cutTo_d.d 3 rfl) (fun q3 => ?_) (fun q3 => ?_)
  · refine AW.run X M_cutTo_d 6 3 rfl ?_
    refine AW.if_le X (M_cutTo_d.d 9 rfl) (fun q9 => ?_) (fun q9 => ?_)
    · refine AW.run X M_cutTo_d 12 1 rfl ?_
      exact AW.lret X (M_cutTo_d.d 13 rfl) (Nat.le_of_ble_eq_true rfl) (Nat.le_of_ble_eq_true rfl) ⟨by rw [zcut, if_neg (by have := (lc_ge hv hlo).mp q3; omega), if_neg (by have := (lc_le hv hhi).mp q9; omega)], rfl⟩
    · refine AW.run X M_cutTo_d 10 1 rfl ?_
      refine AW.goto X (M_cutTo_d.d 11 rfl) ?_
      exact AW.lret X (M_cutTo_d.d 13 rfl) (Nat.le_of_ble_eq_true rfl) (Nat.le_of_ble_eq_true rfl) ⟨by rw [zcut, if_neg (by have := (lc_ge hv hlo).mp q3; omega), if_pos (by have := mt (lc_le hv hhi).mpr q9; omega)], rfl⟩
  · refine AW.run X M_cutTo_d 4 1 rfl ?_
    refine AW.goto X (M_cutTo_d.d 5 rfl) ?_
    exact AW.lret X (M_cutTo_d.d 13 rfl) (Nat.le_of_ble_eq_true rfl) (Nat.le_of_ble_eq_true rfl) ⟨by rw [zcut, if_pos (by have := mt (lc_ge hv hlo).mpr q3; omega)], rfl⟩

set_option maxHeartbeats 4000000 in
set_option maxRecDepth 100000 in
theorem M_kept_m {l : Launch} {G : ax_G} {h : List va_E} (v : Int) (hv : zL v) :
    AM l VV G M_kept_y M_kept_c 2 (some .long) 1 0 0 [.long (lZ v)] (h) (fun w h' => w = some (.long (lZ (zk v))) ∧ h' = h) := by
  refine AM.of (pl := pl_M) (by decide) v_good fl_M_ok kl_M_ok nofun (Nat.le_of_ble_eq_true rfl) ?_
  intro p e s m args below meth c X
  refine AW.run X M_kept_d 0 3 rfl ?_
  refine AW.callS (As := [_, _, _]) X (M_cutTo_m v (-1073741824) 1073741824 hv ⟨by decide, by decide⟩ ⟨by decide, by decide⟩) cb_M_104 M_cutTo_st rfl ⟨Nat.le_of_ble_eq_true rfl, Nat.le_of_ble_eq_true rfl⟩ (Nat.le_of_ble_eq_true rfl) ⟨Nat.le_of_ble_eq_true rfl, Nat.le_of_ble_eq_true rfl⟩ (M_kept_d.d 3 rfl) (fun v h' q => ?_)
  obtain ⟨rfl, rfl⟩ := q
  exact AW.lret X (M_kept_d.d 4 rfl) (Nat.le_of_ble_eq_true rfl) (Nat.le_of_ble_eq_true rfl) ⟨rfl, rfl⟩

set_option maxHeartbeats 4000000 in
set_option maxRecDepth 100000 in
theorem M_down_m {l : Launch} {G : ax_G} {h : List va_E} (a b : Int) (ha : zL a) (hb : zL b) (h0 : b ≠ 0) (hn : a ≠ -9223372036854775808 ∨ b ≠ -1) :
    AM l VV G M_down_y M_down_c 4 (some .long) 1 0 0 [.long (lZ a), .long (lZ b)] (h) (fun v h' => v = some (.long (lZ (a.fdiv b))) ∧ h' = h) := by
  refine AM.of (pl := pl_M) (by decide) v_good fl_M_ok kl_M_ok nofun (Nat.le_of_ble_eq_true rfl) ?_
  intro p e s m args below meth c X
  refine AW.run X M_down_d 0 2 rfl ?_
  refine AW.callS (As := [_, _]) X (JMath_floorDiv_m a b ha hb h0 hn) cb_M_108 JMath_floorDiv_st rfl ⟨Nat.le_of_ble_eq_true rfl, Nat.le_of_ble_eq_true rfl⟩ (Nat.le_of_ble_eq_true rfl) ⟨Nat.le_of_ble_eq_true rfl, Nat.le_of_ble_eq_true rfl⟩ (M_down_d.d 2 rfl) (fun v h' q => ?_)
  obtain ⟨rfl, rfl⟩ := q
  exact AW.lret X (M_down_d.d 3 rfl) (Nat.le_of_ble_eq_true rfl) (Nat.le_of_ble_eq_true rfl) ⟨rfl, rfl⟩

theorem fd_lt {a b m : Int} (hb : 0 < b) (h1 : -m * b ≤ a) (h2 : a < m * b) : -m ≤ a.fdiv b ∧ a.fdiv b < m := by
  rw [Int.fdiv_eq_ediv_of_nonneg _ (by omega)]
  exact ⟨Int.le_ediv_of_mul_le hb h1, Int.ediv_lt_of_lt_mul hb h2⟩
theorem mul_bd {a b A B : Int} (h1 : -A ≤ a) (h2 : a ≤ A) (h3 : -B ≤ b) (h4 : b ≤ B) : -(A * B) ≤ a * b ∧ a * b ≤ A * B := by
  have hA : 0 ≤ A := by omega
  have hB : 0 ≤ B := by omega
  have k : (a * b).natAbs ≤ A.natAbs * B.natAbs := by
    rw [Int.natAbs_mul]
    exact Nat.mul_le_mul (by omega) (by omega)
  have k2 : ((A.natAbs * B.natAbs : Nat) : Int) = A * B := by
    rw [Int.natCast_mul, Int.natAbs_of_nonneg hA, Int.natAbs_of_nonneg hB]
  have k3 : ((a * b).natAbs : Int) ≤ A * B := by rw [← k2]; exact Int.ofNat_le.mpr k
  omega
/-- what a product of two numbers is -/
theorem zN_mul {a b : Int} (ha : zN a) (hb : zN b) : zL (a * b) ∧ (a * b) ≠ -9223372036854775808 := by
  have h := mul_bd (A := 1073741824) (B := 1073741824) (by have := ha.1; omega) ha.2 (by have := hb.1; omega) hb.2
  have e : (1073741824 * 1073741824 : Int) = 1152921504606846976 := by decide
  rw [e] at h
  exact ⟨⟨by omega, by omega⟩, by omega⟩
theorem zN_fd {a b : Int} (ha : zN a) (hb : zN b) : zL ((a * b).fdiv 65536) := by
  have h := mul_bd (A := 1073741824) (B := 1073741824) (by have := ha.1; omega) ha.2 (by have := hb.1; omega) hb.2
  have e : (1073741824 * 1073741824 : Int) = 1152921504606846976 := by decide
  rw [e] at h
  have k := fd_lt (a := a * b) (b := 65536) (m := 9223372036854775807) (by decide) (by omega) (by omega)
  exact ⟨by omega, by omega⟩
theorem fd_abs {a b : Int} (hb : b ≠ 0) : (a.fdiv b).natAbs ≤ a.natAbs := by
  rw [zfd hb]
  have h1 : (a.tdiv b).natAbs ≤ a.natAbs := Int.natAbs_tdiv_le_natAbs a b
  have h2 : (a.tdiv b).natAbs = a.natAbs / b.natAbs := Int.natAbs_tdiv a b
  split
  · next h =>
    have hs : a ≠ 0 := fun q => h.2 (by rw [q]; simp)
    rcases Nat.lt_or_ge 1 b.natAbs with q | q
    · have h3 : a.natAbs / b.natAbs ≤ a.natAbs / 2 := Nat.div_le_div_left q (by decide)
      omega
    · have h4 : b = 1 ∨ b = -1 := by omega
      rcases h4 with rfl | rfl
      · exact absurd (by rw [Int.tdiv_one]; omega) h.2
      · exact absurd (by rw [Int.tdiv_neg, Int.tdiv_one]; omega) h.2
  · exact h1
set_option maxHeartbeats 4000000 in
set_option maxRecDepth 100000 in
theorem M_times_m {l : Launch} {G : ax_G} {h : List va_E} (a b : Int) (ha : zN a) (hb : zN b) :
    AM l VV G M_times_y M_times_c 4 (some .long) 2 0 0 [.long (lZ a), .long (lZ b)] (h) (fun v h' => v = some (.long (lZ (ztimes a b))) ∧ h' = h) := by
  refine AM.of (pl := pl_M) (by decide) v_good fl_M_ok kl_M_ok nofun (Nat.le_of_ble_eq_true rfl) ?_
  intro p e s m args below meth c X
  refine AW.run X M_times_d 0 4 rfl ?_
  rw [lZ_mul]
  refine AW.callS (As := [_, _]) X (M_down_m (a * b) 65536 (zN_mul ha hb).1 ⟨by decide, by decide⟩ (by decide) (Or.inr (by decide))) cb_M_116 M_down_st rfl ⟨Nat.le_of_ble_eq_true rfl, Nat.le_of_ble_eq_true rfl⟩ (Nat.le_of_ble_eq_true rfl) ⟨Nat.le_of_ble_eq_true rfl, Nat.le_of_ble_eq_true rfl⟩ (M_times_d.d 4 rfl) (fun v h' q => ?_)
  obtain ⟨rfl, rfl⟩ := q
  refine AW.callS (As := [_]) X (M_kept_m _ (zN_fd ha hb)) cb_M_119 M_kept_st rfl ⟨Nat.le_of_ble_eq_true rfl, Nat.le_of_ble_eq_true rfl⟩ (Nat.le_of_ble_eq_true rfl) ⟨Nat.le_of_ble_eq_true rfl, Nat.le_of_ble_eq_true rfl⟩ (M_times_d.d 5 rfl) (fun v h' q => ?_)
  obtain ⟨rfl, rfl⟩ := q
  exact AW.lret X (M_times_d.d 6 rfl) (Nat.le_of_ble_eq_true rfl) (Nat.le_of_ble_eq_true rfl) ⟨rfl, rfl⟩

/-- the road of 'laid' -/
theorem laid_ok {x p q r s : Int} (hx : p ≤ x ∧ x ≤ q) (hpq : p ≠ q) (hb : q - p ≤ 4611686018427387904) (hr : zN r) (hs : zN s) (hw : (q - p) * 2147483648 ≤ 9223372036854775807) : zL ((x - p) * (s - r)) ∧ ((x - p) * (s - r)) ≠ -9223372036854775808 ∧ zL (r + ((x - p) * (s - r)).fdiv (q - p)) := by
  have h := mul_bd (a := x - p) (b := s - r) (A := q - p) (B := 2147483648) (by omega) (by omega) (by have := hr.2; have := hs.1; omega) (by have := hr.1; have := hs.2; omega)
  have k := fd_lt (a := (x - p) * (s - r)) (b := q - p) (m := 2147483649) (by omega) (by
    have e : -2147483649 * (q - p) = -((q - p) * 2147483648) - (q - p) := by rw [Int.neg_mul, show (2147483649 : Int) = 2147483648 + 1 from rfl, Int.add_mul, Int.mul_comm]; omega
    omega) (by
    have e : 2147483649 * (q - p) = (q - p) * 2147483648 + (q - p) := by rw [show (2147483649 : Int) = 2147483648 + 1 from rfl, Int.add_mul, Int.mul_comm]; omega
    omega)
  have := hr.1
  have := hr.2
  exact ⟨⟨by omega, by omega⟩, by omega, ⟨by omega, by omega⟩⟩
set_option maxHeartbeats 4000000 in
set_option maxRecDepth 100000 in
theorem M_laid_m {l : Launch} {G : ax_G} {h : List va_E} (x p0 q r s0 : Int) (hx : p0 ≤ x ∧ x ≤ q) (hp : zL p0) (hq : zL q) (hb : q - p0 ≤ 4294967295) (hr : zN r) (hs : zN s0) :
    AM l VV G M_laid_y M_laid_c 10 (some .long) 2 0 0 [.long (lZ x), .long (lZ p0), .long (lZ q), .long (lZ r), .long (lZ s0)] (h) (fun v h' => v = some (.long (lZ (zlaid x p0 q r s0))) ∧ h' = h) := by
  refine AM.of (pl := pl_M) (by decide) v_good fl_M_ok kl_M_ok nofun (Nat.le_of_ble_eq_true rfl) ?_
  intro p e s m args below meth c X
  have hw : (q - p0) * 2147483648 ≤ 9223372036854775807 := by
    have : (q - p0) * 2147483648 ≤ 4294967295 * 2147483648 := Int.mul_le_mul_of_nonneg_right hb (by decide)
    omega
  refine AW.run X M_laid_d 0 3 rfl ?_
  refine AW.if_ne X (M_laid_d.d 3 rfl) (fun q3 => ?_) (fun q3 => ?_)
  · refine AW.run X M_laid_d 6 11 rfl ?_
    have hne : p0 ≠ q := fun z => q3 ((lc_eq hp hq).mpr z)
    obtain ⟨k1, k2, k3⟩ := laid_ok hx hne (by omega) hr hs hw
    rw [lZ_sub, lZ_sub, lZ_sub, lZ_mul]
    refine AW.callS (As := [_, _]) X (M_down_m _ (q - p0) k1 ⟨by omega, by omega⟩ (by omega) (Or.inl k2)) cb_M_116 M_down_st rfl ⟨Nat.le_of_ble_eq_true rfl, Nat.le_of_ble_eq_true rfl⟩ (Nat.le_of_ble_eq_true rfl) ⟨Nat.le_of_ble_eq_true rfl, Nat.le_of_ble_eq_true rfl⟩ (M_laid_d.d 17 rfl) (fun v h' q => ?_)
    obtain ⟨rfl, rfl⟩ := q
    refine AW.run X M_laid_d 18 1 rfl ?_
    rw [lZ_add]
    refine AW.callS (As := [_]) X (M_kept_m _ k3) cb_M_119 M_kept_st rfl ⟨Nat.le_of_ble_eq_true rfl, Nat.le_of_ble_eq_true rfl⟩ (Nat.le_of_ble_eq_true rfl) ⟨Nat.le_of_ble_eq_true rfl, Nat.le_of_ble_eq_true rfl⟩ (M_laid_d.d 19 rfl) (fun v h' q => ?_)
    obtain ⟨rfl, rfl⟩ := q
    exact AW.lret X (M_laid_d.d 20 rfl) (Nat.le_of_ble_eq_true rfl) (Nat.le_of_ble_eq_true rfl) ⟨by rw [zlaid, if_neg hne], rfl⟩
  · refine AW.run X M_laid_d 4 1 rfl ?_
    refine AW.goto X (M_laid_d.d 5 rfl) ?_
    exact AW.lret X (M_laid_d.d 20 rfl) (Nat.le_of_ble_eq_true rfl) (Nat.le_of_ble_eq_true rfl) ⟨by rw [zlaid, if_pos ((lc_eq hp hq).mp q3)], rfl⟩

theorem lZ_min {a b : Int} (ha : zL a) (hb : zL b) : (if lZ a < lZ b then lZ a else lZ b) = lZ (if a < b then a else b) := by
  by_cases h : a < b
  · rw [if_pos ((lZ_lt ha hb).mpr h), if_pos h]
  · rw [if_neg (mt (lZ_lt ha hb).mp h), if_neg h]
theorem lZ_max {a b : Int} (ha : zL a) (hb : zL b) : (if lZ a < lZ b then lZ b else lZ a) = lZ (if a < b then b else a) := by
  by_cases h : a < b
  · rw [if_pos ((lZ_lt ha hb).mpr h), if_pos h]
  · rw [if_neg (mt (lZ_lt ha hb).mp h), if_neg h]
theorem mm_cut {x lo hi : Int} (h : lo ≤ hi) : (if lo < (if x < hi then x else hi) then (if x < hi then x else hi) else lo) = zcut x lo hi := by
  unfold zcut
  by_cases h1 : x < hi
  · rw [if_pos h1]
    by_cases h2 : lo < x
    · rw [if_pos h2, if_neg (by omega), if_neg (by omega)]
    · rw [if_neg h2]
      by_cases h3 : x < lo
      · rw [if_pos h3]
      · rw [if_neg h3, if_neg (by omega)]
        omega
  · rw [if_neg h1, if_neg (by omega : ¬ x < lo)]
    by_cases h2 : lo < hi
    · rw [if_pos h2]
      by_cases h3 : hi < x
      · rw [if_pos h3]
      · rw [if_neg h3]; omega
    · rw [if_neg h2]
      by_cases h3 : hi < x
      · rw [if_pos h3]; omega
      · rw [if_neg h3]; omega
set_option maxHeartbeats 4000000 in
set_option maxRecDepth 100000 in
theorem B_within_m {l : Launch} {G : ax_G} {h : List va_E} (x lo hi : Int) (hx : zL x) (hlo : zL lo) (hhi : zL hi) (hle : lo ≤ hi) :
    AM l VV G B_within_y B_within_c 6 (some .long) 1 0 0 [.long (lZ x), .long (lZ lo), .long (lZ hi)] (h) (fun v h' => v = some (.long (lZ (zcut x lo hi))) ∧ h' = h) := by
  refine AM.of (pl := pl_B) (by decide) v_good fl_B_ok kl_B_ok nofun (Nat.le_of_ble_eq_true rfl) ?_
  intro p e s m args below meth c X
  refine AW.run X B_within_d 0 3 rfl ?_
  refine AW.callS (As := [_, _]) X (JMath_min2_m (lZ hi) (lZ x)) cb_B_9 JMath_min2_st rfl ⟨Nat.le_of_ble_eq_true rfl, Nat.le_of_ble_eq_true rfl⟩ (Nat.le_of_ble_eq_true rfl) ⟨Nat.le_of_ble_eq_true rfl, Nat.le_of_ble_eq_true rfl⟩ (B_within_d.d 3 rfl) (fun v h' q => ?_)
  obtain ⟨rfl, rfl⟩ := q
  refine AW.callS (As := [_, _]) X (JMath_max2_m (lZ lo) _) cb_B_15 JMath_max2_st rfl ⟨Nat.le_of_ble_eq_true rfl, Nat.le_of_ble_eq_true rfl⟩ (Nat.le_of_ble_eq_true rfl) ⟨Nat.le_of_ble_eq_true rfl, Nat.le_of_ble_eq_true rfl⟩ (B_within_d.d 4 rfl) (fun v h' q => ?_)
  obtain ⟨rfl, rfl⟩ := q
  exact AW.lret X (B_within_d.d 5 rfl) (Nat.le_of_ble_eq_true rfl) (Nat.le_of_ble_eq_true rfl) ⟨by rw [lZ_min hx hhi, lZ_max hlo (by split; exact hx; exact hhi), mm_cut hle], rfl⟩

set_option maxHeartbeats 4000000 in
set_option maxRecDepth 100000 in
theorem B_number_m {l : Launch} {G : ax_G} {h : List va_E} (x : Int) (hx : zL x) :
    AM l VV G B_number_y B_number_c 2 (some .int) 0 0 0 [.long (lZ x)] (h) (fun v h' => v = some (.int (iZ (zk x))) ∧ h' = h) := by
  refine AM.of (pl := pl_B) (by decide) v_good fl_B_ok kl_B_ok nofun (Nat.le_of_ble_eq_true rfl) ?_
  intro p e s m args below meth c X
  refine AW.run X B_number_d 0 3 rfl ?_
  refine AW.if_le X (B_number_d.d 3 rfl) (fun q3 => ?_) (fun q3 => ?_)
  · refine AW.run X B_number_d 6 3 rfl ?_
    refine AW.if_ge X (B_number_d.d 9 rfl) (fun q9 => ?_) (fun q9 => ?_)
    · refine AW.run X B_number_d 12 2 rfl ?_
      exact AW.iret X (B_number_d.d 14 rfl) (Nat.le_of_ble_eq_true rfl) (Nat.le_of_ble_eq_true rfl) ⟨by rw [lZ_i, zk, zcut, if_neg (by have := (lc_ge hx ⟨by decide, by decide⟩).mp (show 0 ≤ lg_cmp (lZ x) (lZ (-1073741824)) from q9); omega), if_neg (by have := (lc_le hx ⟨by decide, by decide⟩).mp (show lg_cmp (lZ x) (lZ 1073741824) ≤ 0 from q3); omega)], rfl⟩
    · refine AW.run X B_number_d 10 1 rfl ?_
      refine AW.goto X (B_number_d.d 11 rfl) ?_
      exact AW.iret X (B_number_d.d 14 rfl) (Nat.le_of_ble_eq_true rfl) (Nat.le_of_ble_eq_true rfl) ⟨by rw [zk, zcut, if_pos (by have := mt (lc_ge hx ⟨by decide, by decide⟩).mpr (show ¬ 0 ≤ lg_cmp (lZ x) (lZ (-1073741824)) from q9); omega)]; rfl, rfl⟩
  · refine AW.run X B_number_d 4 1 rfl ?_
    exact AW.iret X (B_number_d.d 5 rfl) (Nat.le_of_ble_eq_true rfl) (Nat.le_of_ble_eq_true rfl) ⟨by rw [zk, zcut, if_neg (by have := mt (lc_le hx ⟨by decide, by decide⟩).mpr (show ¬ lg_cmp (lZ x) (lZ 1073741824) ≤ 0 from q3); omega), if_pos (by have := mt (lc_le hx ⟨by decide, by decide⟩).mpr (show ¬ lg_cmp (lZ x) (lZ 1073741824) ≤ 0 from q3); omega)]; rfl, rfl⟩

theorem lZ_sar (D : Int64) (d : Nat) (hD : (D.toBitVec.smod 64).toNat = d) {z : Int} (h : zL z) : lZ z >>> D = lZ (z.fdiv (2 ^ d)) := by
  have hp : (0 : Int) < 2 ^ d := Int.pow_pos (by decide)
  have e : (lZ z >>> D).toInt = z >>> d := by
    have : (lZ z >>> D).toInt = (lZ z).toInt >>> d := by
      rw [← hD]
      exact BitVec.toInt_sshiftRight ..
    rw [this, lZ_t h]
  have k : zL (z.fdiv (2 ^ d)) := by
    have h1 := fd_abs (a := z) (b := 2 ^ d) (by omega)
    have := h.1
    have := h.2
    rw [Int.fdiv_eq_ediv_of_nonneg _ (Int.le_of_lt hp)] at h1 ⊢
    have h2 : z < 0 → z / 2 ^ d < 0 := fun q => Int.ediv_neg_of_neg_of_pos q hp
    have h3 : 0 ≤ z → 0 ≤ z / 2 ^ d := fun q => Int.ediv_nonneg q (Int.le_of_lt hp)
    by_cases q : z < 0
    · have := h2 q
      exact ⟨by omega, by omega⟩
    · have := h3 (by omega)
      exact ⟨by omega, by omega⟩
  apply Int64.toInt_inj.mp
  rw [e, lZ_t k, Int.shiftRight_eq_div_pow, Int.fdiv_eq_ediv_of_nonneg _ (Int.le_of_lt hp)]
  norm_cast
set_option maxHeartbeats 4000000 in
set_option maxRecDepth 100000 in
theorem B_times_m {l : Launch} {G : ax_G} {h : List va_E} (a b : Int) (ha : zN a) (hb : zN b) :
    AM l VV G B_times_y B_times_c 2 (some .int) 1 0 0 [.int (iZ a), .int (iZ b)] (h) (fun v h' => v = some (.int (iZ (ztimes a b))) ∧ h' = h) := by
  refine AM.of (pl := pl_B) (by decide) v_good fl_B_ok kl_B_ok nofun (Nat.le_of_ble_eq_true rfl) ?_
  intro p e s m args below meth c X
  refine AW.run X B_times_d 0 7 rfl ?_
  rw [iZ_l (zN_I ha), iZ_l (zN_I hb), lZ_mul, lZ_sar _ 16 (by decide) (zN_mul ha hb).1]
  refine AW.callS (As := [_]) X (B_number_m _ (zN_fd ha hb)) cb_B_24 B_number_st rfl ⟨Nat.le_of_ble_eq_true rfl, Nat.le_of_ble_eq_true rfl⟩ (Nat.le_of_ble_eq_true rfl) ⟨Nat.le_of_ble_eq_true rfl, Nat.le_of_ble_eq_true rfl⟩ (B_times_d.d 7 rfl) (fun v h' q => ?_)
  obtain ⟨rfl, rfl⟩ := q
  exact AW.iret X (B_times_d.d 8 rfl) (Nat.le_of_ble_eq_true rfl) (Nat.le_of_ble_eq_true rfl) ⟨rfl, rfl⟩

def zover (a b : Int) : Int := zk ((a * 65536).fdiv b)
theorem zover_ok {a b : Int} (ha : zN a) (hb : b ≠ 0) : zL (a * 65536) ∧ a * 65536 ≠ -9223372036854775808 ∧ zL ((a * 65536).fdiv b) := by
  have := ha.1
  have := ha.2
  have k := fd_abs (a := a * 65536) hb
  exact ⟨⟨by omega, by omega⟩, by omega, ⟨by omega, by omega⟩⟩
set_option maxHeartbeats 4000000 in
set_option maxRecDepth 100000 in
theorem B_over_m {l : Launch} {G : ax_G} {h : List va_E} (a b : Int) (ha : zN a) (hb : zN b) (h0 : b ≠ 0) :
    AM l VV G B_over_y B_over_c 2 (some .int) 1 0 0 [.int (iZ a), .int (iZ b)] (h) (fun v h' => v = some (.int (iZ (zover a b))) ∧ h' = h) := by
  refine AM.of (pl := pl_B) (by decide) v_good fl_B_ok kl_B_ok nofun (Nat.le_of_ble_eq_true rfl) ?_
  intro p e s m args below meth c X
  refine AW.run X B_over_d 0 1 rfl ?_
  refine AW.if_ne X (B_over_d.d 1 rfl) (fun q1 => ?_) (fun q1 => ?_)
  · refine AW.run X B_over_d 4 6 rfl ?_
    rw [iZ_l (zN_I ha), iZ_l (zN_I hb), show (65536 : Int64) = lZ 65536 from by decide, lZ_mul]
    refine AW.callS (As := [_, _]) X (JMath_floorDiv_m _ b (zover_ok ha h0).1 (zN_L hb) h0 (Or.inl (zover_ok ha h0).2.1)) cb_B_32 JMath_floorDiv_st rfl ⟨Nat.le_of_ble_eq_true rfl, Nat.le_of_ble_eq_true rfl⟩ (Nat.le_of_ble_eq_true rfl) ⟨Nat.le_of_ble_eq_true rfl, Nat.le_of_ble_eq_true rfl⟩ (B_over_d.d 10 rfl) (fun v h' q => ?_)
    obtain ⟨rfl, rfl⟩ := q
    refine AW.callS (As := [_]) X (B_number_m _ (zover_ok ha h0).2.2) cb_B_24 B_number_st rfl ⟨Nat.le_of_ble_eq_true rfl, Nat.le_of_ble_eq_true rfl⟩ (Nat.le_of_ble_eq_true rfl) ⟨Nat.le_of_ble_eq_true rfl, Nat.le_of_ble_eq_true rfl⟩ (B_over_d.d 11 rfl) (fun v h' q => ?_)
    obtain ⟨rfl, rfl⟩ := q
    exact AW.iret X (B_over_d.d 12 rfl) (Nat.le_of_ble_eq_true rfl) (Nat.le_of_ble_eq_true rfl) ⟨rfl, rfl⟩
  · refine AW.run X B_over_d 2 1 rfl ?_
    refine AW.goto X (B_over_d.d 3 rfl) ?_
    exact AW.iret X (B_over_d.d 12 rfl) (Nat.le_of_ble_eq_true rfl) (Nat.le_of_ble_eq_true rfl) (absurd ((iZ_eq (zN_I hb) (b := 0) ⟨by decide, by decide⟩).mp q1) h0)

set_option maxHeartbeats 4000000 in
set_option maxRecDepth 100000 in
theorem B_laid_m {l : Launch} {G : ax_G} {h : List va_E} (x p0 q r s0 : Int) (hx : p0 ≤ x ∧ x ≤ q) (hp : zL p0) (hq : zL q) (hb : q - p0 ≤ 4294967295) (hr : zN r) (hs : zN s0) :
    AM l VV G B_laid_y B_laid_c 10 (some .int) 1 0 0 [.long (lZ x), .long (lZ p0), .long (lZ q), .long (lZ r), .long (lZ s0)] (h) (fun v h' => v = some (.int (iZ (zlaid x p0 q r s0))) ∧ h' = h) := by
  refine AM.of (pl := pl_B) (by decide) v_good fl_B_ok kl_B_ok nofun (Nat.le_of_ble_eq_true rfl) ?_
  intro p e s m args below meth c X
  have hw : (q - p0) * 2147483648 ≤ 9223372036854775807 := by
    have : (q - p0) * 2147483648 ≤ 4294967295 * 2147483648 := Int.mul_le_mul_of_nonneg_right hb (by decide)
    omega
  refine AW.run X B_laid_d 0 3 rfl ?_
  refine AW.if_ne X (B_laid_d.d 3 rfl) (fun q3 => ?_) (fun q3 => ?_)
  · refine AW.run X B_laid_d 7 11 rfl ?_
    have hne : p0 ≠ q := fun z => q3 ((lc_eq hp hq).mpr z)
    obtain ⟨k1, k2, k3⟩ := laid_ok hx hne (by omega) hr hs hw
    rw [lZ_sub, lZ_sub, lZ_sub, lZ_mul]
    refine AW.callS (As := [_, _]) X (JMath_floorDiv_m _ (q - p0) k1 ⟨by omega, by omega⟩ (by omega) (Or.inl k2)) cb_B_32 JMath_floorDiv_st rfl ⟨Nat.le_of_ble_eq_true rfl, Nat.le_of_ble_eq_true rfl⟩ (Nat.le_of_ble_eq_true rfl) ⟨Nat.le_of_ble_eq_true rfl, Nat.le_of_ble_eq_true rfl⟩ (B_laid_d.d 18 rfl) (fun v h' q => ?_)
    obtain ⟨rfl, rfl⟩ := q
    refine AW.run X B_laid_d 19 1 rfl ?_
    rw [lZ_add]
    refine AW.callS (As := [_]) X (B_number_m _ k3) cb_B_24 B_number_st rfl ⟨Nat.le_of_ble_eq_true rfl, Nat.le_of_ble_eq_true rfl⟩ (Nat.le_of_ble_eq_true rfl) ⟨Nat.le_of_ble_eq_true rfl, Nat.le_of_ble_eq_true rfl⟩ (B_laid_d.d 20 rfl) (fun v h' q => ?_)
    obtain ⟨rfl, rfl⟩ := q
    exact AW.iret X (B_laid_d.d 21 rfl) (Nat.le_of_ble_eq_true rfl) (Nat.le_of_ble_eq_true rfl) ⟨by rw [zlaid, if_neg hne], rfl⟩
  · refine AW.run X B_laid_d 4 1 rfl ?_
    refine AW.callS (As := [_]) X (B_number_m r (zN_L hr)) cb_B_24 B_number_st rfl ⟨Nat.le_of_ble_eq_true rfl, Nat.le_of_ble_eq_true rfl⟩ (Nat.le_of_ble_eq_true rfl) ⟨Nat.le_of_ble_eq_true rfl, Nat.le_of_ble_eq_true rfl⟩ (B_laid_d.d 5 rfl) (fun v h' q => ?_)
    obtain ⟨rfl, rfl⟩ := q
    exact AW.iret X (B_laid_d.d 6 rfl) (Nat.le_of_ble_eq_true rfl) (Nat.le_of_ble_eq_true rfl) ⟨by rw [zlaid, if_pos ((lc_eq hp hq).mp q3), zk_id hr], rfl⟩
end
section
/-! the reference: its small methods -/
theorem cge {a b : Nat} {x y : Int32} (q : y ≤ x) (ex : x = nI a := by rfl) (ey : y = nI b := by first | rfl | decide) (ha : a < 2 ^ 31 := by omega) (hb : b < 2 ^ 31 := by omega) : b ≤ a := by subst ex ey; exact (nI_leI hb ha).mp q
theorem clt {a b : Nat} {x y : Int32} (q : ¬ y ≤ x) (ex : x = nI a := by rfl) (ey : y = nI b := by first | rfl | decide) (ha : a < 2 ^ 31 := by omega) (hb : b < 2 ^ 31 := by omega) : a < b := by subst ex ey; exact Nat.not_le.mp fun z => q ((nI_leI hb ha).mpr z)
theorem cgt {a b : Nat} {x y : Int32} (q : y < x) (ex : x = nI a := by rfl) (ey : y = nI b := by first | rfl | decide) (ha : a < 2 ^ 31 := by omega) (hb : b < 2 ^ 31 := by omega) : b < a := by subst ex ey; exact (nI_ltI hb ha).mp q
theorem cle {a b : Nat} {x y : Int32} (q : ¬ y < x) (ex : x = nI a := by rfl) (ey : y = nI b := by first | rfl | decide) (ha : a < 2 ^ 31 := by omega) (hb : b < 2 ^ 31 := by omega) : a ≤ b := by subst ex ey; exact Nat.not_lt.mp fun z => q ((nI_ltI hb ha).mpr z)
theorem ceq {a b : Nat} {x y : Int32} (q : x = y) (ex : x = nI a := by rfl) (ey : y = nI b := by first | rfl | decide) (ha : a < 2 ^ 31 := by omega) (hb : b < 2 ^ 31 := by omega) : a = b := by subst ex ey; exact (nI_eq ha hb).mp q
theorem cne {a b : Nat} {x y : Int32} (q : ¬ x = y) (ex : x = nI a := by rfl) (ey : y = nI b := by first | rfl | decide) (ha : a < 2 ^ 31 := by omega) (hb : b < 2 ^ 31 := by omega) : a ≠ b := by subst ex ey; exact fun z => q ((nI_eq ha hb).mpr z)
theorem vb_t {P : Prop} [Decidable P] (h : P) : some (Value.int (Int32.ofInt 1)) = some (.int (bI (decide P))) := by rw [decide_eq_true h]; rfl
theorem vb_f {P : Prop} [Decidable P] (h : ¬ P) : some (Value.int (Int32.ofInt 0)) = some (.int (bI (decide P))) := by rw [decide_eq_false h]; rfl
theorem bq_t {P : Prop} [Decidable P] : ¬ bI (decide P) = 0 ↔ P := by
  by_cases h : P <;> simp [h, bI]
theorem bq_f {P : Prop} [Decidable P] : bI (decide P) = 0 ↔ ¬ P := by
  by_cases h : P <;> simp [h, bI]
set_option maxHeartbeats 4000000 in
set_option maxRecDepth 100000 in
theorem M_thrown_m {l : Launch} {G : ax_G} (S : x_S) (M : x_M) (tl : List va_E)  :
    AM l VV G M_thrown_y M_thrown_c 1 (some .int) 0 0 0 [.ref 150] (x_hM S M tl) (fun v h' => v = some (.int (M.1 0)) ∧ h' = x_hM S M tl) := by
  refine AM.of (pl := pl_M) (by decide) v_good fl_M_ok kl_M_ok nofun (Nat.le_of_ble_eq_true rfl) ?_
  intro p e s m args below meth c X
  refine AW.run X M_thrown_d 0 2 rfl ?_
  exact AW.iret X (M_thrown_d.d 2 rfl) (Nat.le_of_ble_eq_true rfl) (Nat.le_of_ble_eq_true rfl) ⟨rfl, rfl⟩

set_option maxHeartbeats 4000000 in
set_option maxRecDepth 100000 in
theorem M_refused_m {l : Launch} {G : ax_G} (S : x_S) (M : x_M) (tl : List va_E) (w : Int32) :
    AM l VV G M_refused_y M_refused_c 2 (some .boolean) 0 0 0 [.ref 150, .int w] (x_hM S M tl) (fun v h' => v = some (.int (bI (decide (0 < w)))) ∧ h' = x_hM S (y_i M 0 w) tl) := by
  refine AM.of (pl := pl_M) (by decide) v_good fl_M_ok kl_M_ok nofun (Nat.le_of_ble_eq_true rfl) ?_
  intro p e s m args below meth c X
  refine AW.run X M_refused_d 0 2 rfl ?_
  refine AW.mp0 X (M_refused_d.d 2 rfl) ?_
  refine AW.run X M_refused_d 3 1 rfl ?_
  refine AW.if_le X (M_refused_d.d 4 rfl) (fun q4 => ?_) (fun q4 => ?_)
  · refine AW.run X M_refused_d 7 1 rfl ?_
    exact AW.zret X n_0 (M_refused_d.d 8 rfl) (Nat.le_of_ble_eq_true rfl) (Nat.le_of_ble_eq_true rfl) ⟨vb_f (k2_nlt q4), rfl⟩
  · refine AW.run X M_refused_d 5 1 rfl ?_
    refine AW.goto X (M_refused_d.d 6 rfl) ?_
    exact AW.zret X n_1 (M_refused_d.d 8 rfl) (Nat.le_of_ble_eq_true rfl) (Nat.le_of_ble_eq_true rfl) ⟨vb_t (k2_lt q4), rfl⟩

set_option maxHeartbeats 4000000 in
set_option maxRecDepth 100000 in
theorem M_isIn_m {l : Launch} {G : ax_G} {h : List va_E} (a lo hi : Int) (ha : zL a) (hlo : zL lo) (hhi : zL hi) :
    AM l VV G M_isIn_y M_isIn_c 6 (some .boolean) 0 0 0 [.long (lZ a), .long (lZ lo), .long (lZ hi)] (h) (fun v h' => v = some (.int (bI (decide (lo ≤ a ∧ a ≤ hi)))) ∧ h' = h) := by
  refine AM.of (pl := pl_M) (by decide) v_good fl_M_ok kl_M_ok nofun (Nat.le_of_ble_eq_true rfl) ?_
  intro p e s m args below meth c X
  refine AW.run X M_isIn_d 0 3 rfl ?_
  refine AW.if_lt X (M_isIn_d.d 3 rfl) (fun q3 => ?_) (fun q3 => ?_)
  · refine AW.run X M_isIn_d 10 1 rfl ?_
    exact AW.zret X n_0 (M_isIn_d.d 11 rfl) (Nat.le_of_ble_eq_true rfl) (Nat.le_of_ble_eq_true rfl) ⟨vb_f (fun z => by have := (lc_lt ha hlo).mp q3; omega), rfl⟩
  · refine AW.run X M_isIn_d 4 3 rfl ?_
    refine AW.if_gt X (M_isIn_d.d 7 rfl) (fun q7 => ?_) (fun q7 => ?_)
    · refine AW.run X M_isIn_d 10 1 rfl ?_
      exact AW.zret X n_0 (M_isIn_d.d 11 rfl) (Nat.le_of_ble_eq_true rfl) (Nat.le_of_ble_eq_true rfl) ⟨vb_f (fun z => by have := (lc_gt ha hhi).mp q7; omega), rfl⟩
    · refine AW.run X M_isIn_d 8 1 rfl ?_
      refine AW.goto X (M_isIn_d.d 9 rfl) ?_
      exact AW.zret X n_1 (M_isIn_d.d 11 rfl) (Nat.le_of_ble_eq_true rfl) (Nat.le_of_ble_eq_true rfl) ⟨vb_t (by have := mt (lc_lt ha hlo).mpr q3; have := mt (lc_gt ha hhi).mpr q7; omega), rfl⟩

set_option maxHeartbeats 4000000 in
set_option maxRecDepth 100000 in
theorem M_drop_m {l : Launch} {G : ax_G} (S : x_S) (M : x_M) (tl : List va_E)  :
    AM l VV G M_drop_y M_drop_c 2 (some .int) 0 0 0 [.ref 150] (x_hM S M tl) (fun v h' => v = some (.int (M.1 2)) ∧ h' = x_hM S (y_i (y_i M 0 0) 2 0) tl) := by
  refine AM.of (pl := pl_M) (by decide) v_good fl_M_ok kl_M_ok nofun (Nat.le_of_ble_eq_true rfl) ?_
  intro p e s m args below meth c X
  refine AW.run X M_drop_d 0 2 rfl ?_
  refine AW.mp0 X (M_drop_d.d 2 rfl) ?_
  refine AW.run X M_drop_d 3 5 rfl ?_
  refine AW.mp2 X (M_drop_d.d 8 rfl) ?_
  refine AW.run X M_drop_d 9 1 rfl ?_
  exact AW.iret X (M_drop_d.d 10 rfl) (Nat.le_of_ble_eq_true rfl) (Nat.le_of_ble_eq_true rfl) ⟨rfl, rfl⟩

set_option maxHeartbeats 4000000 in
set_option maxRecDepth 100000 in
theorem M_clear_m {l : Launch} {G : ax_G} (S : x_S) (M : x_M) (tl : List va_E)  :
    AM l VV G M_clear_y M_clear_c 2 (some .int) 0 0 0 [.ref 150] (x_hM S M tl) (fun v h' => v = some (.int (M.1 5)) ∧ h' = x_hM S (y_i (y_i M 0 0) 5 0) tl) := by
  refine AM.of (pl := pl_M) (by decide) v_good fl_M_ok kl_M_ok nofun (Nat.le_of_ble_eq_true rfl) ?_
  intro p e s m args below meth c X
  refine AW.run X M_clear_d 0 2 rfl ?_
  refine AW.mp0 X (M_clear_d.d 2 rfl) ?_
  refine AW.run X M_clear_d 3 5 rfl ?_
  refine AW.mp5 X (M_clear_d.d 8 rfl) ?_
  refine AW.run X M_clear_d 9 1 rfl ?_
  exact AW.iret X (M_clear_d.d 10 rfl) (Nat.le_of_ble_eq_true rfl) (Nat.le_of_ble_eq_true rfl) ⟨rfl, rfl⟩

set_option maxHeartbeats 4000000 in
set_option maxRecDepth 100000 in
theorem M_fault_m {l : Launch} {G : ax_G} (S : x_S) (M : x_M) (tl : List va_E) (w : Int32) :
    AM l VV G M_fault_y M_fault_c 2 (some .int) 0 0 0 [.ref 150, .int w] (x_hM S M tl) (fun v h' => v = some (.int (if w = 0 then M.1 3 else if w = 1 then M.1 4 else -1)) ∧ h' = x_hM S (y_i M 0 0) tl) := by
  refine AM.of (pl := pl_M) (by decide) v_good fl_M_ok kl_M_ok nofun (Nat.le_of_ble_eq_true rfl) ?_
  intro p e s m args below meth c X
  refine AW.run X M_fault_d 0 2 rfl ?_
  refine AW.mp0 X (M_fault_d.d 2 rfl) ?_
  refine AW.run X M_fault_d 3 1 rfl ?_
  refine AW.if_ne X (M_fault_d.d 4 rfl) (fun q4 => ?_) (fun q4 => ?_)
  · refine AW.run X M_fault_d 8 2 rfl ?_
    refine AW.icmp_ne X (M_fault_d.d 10 rfl) (fun q10 => ?_) (fun q10 => ?_)
    · refine AW.run X M_fault_d 14 1 rfl ?_
      exact AW.iret X (M_fault_d.d 15 rfl) (Nat.le_of_ble_eq_true rfl) (Nat.le_of_ble_eq_true rfl) ⟨by rw [if_neg q4, if_neg (show ¬ w = 1 from q10)]; rfl, rfl⟩
    · refine AW.run X M_fault_d 11 2 rfl ?_
      refine AW.goto X (M_fault_d.d 13 rfl) ?_
      exact AW.iret X (M_fault_d.d 15 rfl) (Nat.le_of_ble_eq_true rfl) (Nat.le_of_ble_eq_true rfl) ⟨by rw [if_neg q4, if_pos (show w = 1 from q10)]; rfl, rfl⟩
  · refine AW.run X M_fault_d 5 2 rfl ?_
    refine AW.goto X (M_fault_d.d 7 rfl) ?_
    exact AW.iret X (M_fault_d.d 15 rfl) (Nat.le_of_ble_eq_true rfl) (Nat.le_of_ble_eq_true rfl) ⟨by rw [if_pos q4]; rfl, rfl⟩

set_option maxHeartbeats 4000000 in
set_option maxRecDepth 100000 in
theorem M_tellFault_m {l : Launch} {G : ax_G} (S : x_S) (M : x_M) (tl : List va_E) (a b : Int32) :
    AM l VV G M_tellFault_y M_tellFault_c 3 none 0 0 0 [.ref 150, .int a, .int b] (x_hM S M tl) (fun v h' => v = none ∧ h' = x_hM S (y_i (y_i M 3 a) 4 b) tl) := by
  refine AM.of (pl := pl_M) (by decide) v_good fl_M_ok kl_M_ok nofun (Nat.le_of_ble_eq_true rfl) ?_
  intro p e s m args below meth c X
  refine AW.run X M_tellFault_d 0 2 rfl ?_
  refine AW.mp3 X (M_tellFault_d.d 2 rfl) ?_
  refine AW.run X M_tellFault_d 3 2 rfl ?_
  refine AW.mp4 X (M_tellFault_d.d 5 rfl) ?_
  exact AW.vret X (M_tellFault_d.d 6 rfl) (Nat.le_of_ble_eq_true rfl) (Nat.le_of_ble_eq_true rfl) ⟨rfl, rfl⟩

set_option maxHeartbeats 4000000 in
set_option maxRecDepth 100000 in
theorem M_isBrace_m {l : Launch} {G : ax_G} {h : List va_E} (a : Int32) :
    AM l VV G M_isBrace_y M_isBrace_c 1 (some .boolean) 0 0 0 [.int a] (h) (fun v h' => v = some (.int (bI (decide (a = 123 ∨ a = 125)))) ∧ h' = h) := by
  refine AM.of (pl := pl_M) (by decide) v_good fl_M_ok kl_M_ok nofun (Nat.le_of_ble_eq_true rfl) ?_
  intro p e s m args below meth c X
  refine AW.run X M_isBrace_d 0 2 rfl ?_
  refine AW.icmp_eq X (M_isBrace_d.d 2 rfl) (fun q2 => ?_) (fun q2 => ?_)
  · refine AW.run X M_isBrace_d 6 1 rfl ?_
    refine AW.goto X (M_isBrace_d.d 7 rfl) ?_
    exact AW.zret X n_1 (M_isBrace_d.d 9 rfl) (Nat.le_of_ble_eq_true rfl) (Nat.le_of_ble_eq_true rfl) ⟨vb_t (Or.inl q2), rfl⟩
  · refine AW.run X M_isBrace_d 3 2 rfl ?_
    refine AW.icmp_ne X (M_isBrace_d.d 5 rfl) (fun q5 => ?_) (fun q5 => ?_)
    · refine AW.run X M_isBrace_d 8 1 rfl ?_
      exact AW.zret X n_0 (M_isBrace_d.d 9 rfl) (Nat.le_of_ble_eq_true rfl) (Nat.le_of_ble_eq_true rfl) ⟨vb_f (fun z => Or.elim z q2 q5), rfl⟩
    · refine AW.run X M_isBrace_d 6 1 rfl ?_
      refine AW.goto X (M_isBrace_d.d 7 rfl) ?_
      exact AW.zret X n_1 (M_isBrace_d.d 9 rfl) (Nat.le_of_ble_eq_true rfl) (Nat.le_of_ble_eq_true rfl) ⟨vb_t (Or.inr q5), rfl⟩

set_option maxHeartbeats 4000000 in
set_option maxRecDepth 100000 in
theorem M_isDigit_m {l : Launch} {G : ax_G} {h : List va_E} (a : Int32) :
    AM l VV G M_isDigit_y M_isDigit_c 1 (some .boolean) 0 0 0 [.int a] (h) (fun v h' => v = some (.int (bI (decide (48 ≤ a ∧ a ≤ 57)))) ∧ h' = h) := by
  refine AM.of (pl := pl_M) (by decide) v_good fl_M_ok kl_M_ok nofun (Nat.le_of_ble_eq_true rfl) ?_
  intro p e s m args below meth c X
  refine AW.run X M_isDigit_d 0 2 rfl ?_
  refine AW.icmp_lt X (M_isDigit_d.d 2 rfl) (fun q2 => ?_) (fun q2 => ?_)
  · refine AW.run X M_isDigit_d 8 1 rfl ?_
    exact AW.zret X n_0 (M_isDigit_d.d 9 rfl) (Nat.le_of_ble_eq_true rfl) (Nat.le_of_ble_eq_true rfl) ⟨vb_f (fun z => k2_nle q2 z.1), rfl⟩
  · refine AW.run X M_isDigit_d 3 2 rfl ?_
    refine AW.icmp_gt X (M_isDigit_d.d 5 rfl) (fun q5 => ?_) (fun q5 => ?_)
    · refine AW.run X M_isDigit_d 8 1 rfl ?_
      exact AW.zret X n_0 (M_isDigit_d.d 9 rfl) (Nat.le_of_ble_eq_true rfl) (Nat.le_of_ble_eq_true rfl) ⟨vb_f (fun z => k2_nle q5 z.2), rfl⟩
    · refine AW.run X M_isDigit_d 6 1 rfl ?_
      refine AW.goto X (M_isDigit_d.d 7 rfl) ?_
      exact AW.zret X n_1 (M_isDigit_d.d 9 rfl) (Nat.le_of_ble_eq_true rfl) (Nat.le_of_ble_eq_true rfl) ⟨vb_t ⟨k2_le q2, k2_le q5⟩, rfl⟩

set_option maxHeartbeats 4000000 in
set_option maxRecDepth 100000 in
theorem M_cut_m {l : Launch} {G : ax_G} (S : x_S) (M : x_M) (tl : List va_E) (w : Int32) (n : Nat) (hn : n ≤ 8192) (hsz : M.1 1 = nI n) :
    AM l VV G M_cut_y M_cut_c 3 (some .int) 1 0 0 [.ref 150, .int w] (x_hM S M tl) (fun v h' => if w < 0 then v = some (.int 0) ∧ h' = x_hM S (y_i M 0 1) tl else ∃ k, w = nI k ∧ v = some (.int (nI (n - k))) ∧ h' = x_hM S (y_i (y_i M 0 0) 1 (nI (n - (n - k)))) tl) := by
  refine AM.of (pl := pl_M) (by decide) v_good fl_M_ok kl_M_ok nofun (Nat.le_of_ble_eq_true rfl) ?_
  intro p e s m args below meth c X
  refine AW.run X M_cut_d 0 2 rfl ?_
  have J10 : ∀ (z : Int32), z = (if w < 0 then 1 else 0) → AW p l e (ax_R 1 0 0) s m args below meth c VV G 3 (x_hM S M tl) 0 0 (MQ below (ax_Q VV G (fun v h' => if w < 0 then v = some (.int 0) ∧ h' = x_hM S (y_i M 0 1) tl else ∃ k, w = nI k ∧ v = some (.int (nI (n - k))) ∧ h' = x_hM S (y_i (y_i M 0 0) 1 (nI (n - (n - k)))) tl)) args s 0 0 (fun q => G.bs ≤ q)) 10 [(0, .ref 150), (1, .int w)] [.int z, .ref 150] := by
    intro z hz
    refine AW.callV (As := [.int z]) X (M_refused_m S M tl z) cb_M_84 rfl rfl M_refused_im M_refused_se rfl ⟨Nat.le_of_ble_eq_true rfl, Nat.le_of_ble_eq_true rfl⟩ (Nat.le_of_ble_eq_true rfl) ⟨Nat.le_of_ble_eq_true rfl, Nat.le_of_ble_eq_true rfl⟩ (M_cut_d.d 6 rfl) (fun v h' q => ?_)
    obtain ⟨rfl, rfl⟩ := q
    refine AW.if_eq X (M_cut_d.d 7 rfl) (fun q7 => ?_) (fun q7 => ?_)
    · have hw : ¬ w < 0 := fun q => by rw [if_pos q] at hz; subst hz; exact absurd q7 (by decide)
      rw [if_neg hw] at hz
      subst hz
      obtain ⟨k, hk, rfl⟩ := nI_of hw
      refine AW.run X M_cut_d 10 3 rfl ?_
      refine AW.icmp_le X (M_cut_d.d 13 rfl) (fun q13 => ?_) (fun q13 => ?_)
      · refine AW.run X M_cut_d 19 7 rfl ?_
        refine AW.mp1 X (M_cut_d.d 26 rfl) ?_
        refine AW.run X M_cut_d 27 1 rfl ?_
        exact AW.iret X (M_cut_d.d 28 rfl) (Nat.le_of_ble_eq_true rfl) (Nat.le_of_ble_eq_true rfl) (by
          rw [if_neg hw]
          have hk2 : n ≤ k := (nI_leI (by omega) hk).mp (by rw [← hsz]; exact q13)
          refine ⟨k, rfl, by rw [show n - k = 0 by omega]; rfl, ?_⟩
          rw [show n - (n - k) = n by omega, ← hsz]
          exact congrArg (fun z => x_hM S (y_i (y_i M 0 0) 1 z) tl) (Int32.sub_zero _))
      · refine AW.run X M_cut_d 14 4 rfl ?_
        refine AW.goto X (M_cut_d.d 18 rfl) ?_
        refine AW.run X M_cut_d 20 6 rfl ?_
        refine AW.mp1 X (M_cut_d.d 26 rfl) ?_
        refine AW.run X M_cut_d 27 1 rfl ?_
        exact AW.iret X (M_cut_d.d 28 rfl) (Nat.le_of_ble_eq_true rfl) (Nat.le_of_ble_eq_true rfl) (by
          rw [if_neg hw]
          have hk2 : ¬ n ≤ k := fun z => q13 (by show M.1 1 ≤ nI k; rw [hsz]; exact (nI_leI (by omega) hk).mpr z)
          have e1 : M.1 1 - nI k = nI (n - k) := by rw [hsz, pk_sub (by omega)]
          refine ⟨k, rfl, congrArg (fun z => some (Value.int z)) e1, ?_⟩
          refine congrArg (fun z => x_hM S (y_i (y_i M 0 0) 1 z) tl) ?_
          show M.1 1 - (M.1 1 - nI k) = _
          rw [e1, hsz, pk_sub (by omega)])
    · have hw : w < 0 := Classical.byContradiction fun q => by rw [if_neg q] at hz; subst hz; exact q7 (by decide)
      rw [if_pos hw] at hz
      subst hz
      refine AW.run X M_cut_d 8 1 rfl ?_
      exact AW.iret X (M_cut_d.d 9 rfl) (Nat.le_of_ble_eq_true rfl) (Nat.le_of_ble_eq_true rfl) (by rw [if_pos hw]; exact ⟨rfl, rfl⟩)
  refine AW.if_ge X (M_cut_d.d 2 rfl) (fun q2 => ?_) (fun q2 => ?_)
  · refine AW.run X M_cut_d 5 1 rfl ?_
    exact J10 _ (if_neg (k2_nlt q2)).symm
  · refine AW.run X M_cut_d 3 1 rfl ?_
    refine AW.goto X (M_cut_d.d 4 rfl) ?_
    exact J10 _ (if_pos (k2_lt q2)).symm

/-- the k-th of the five ints that are fed, and its j-th byte -/
def f_w (a b c d e : Int32) (k : Nat) : Int32 := if k < 4 then a else if k < 8 then b else if k < 12 then c else if k < 16 then d else e
def f_b (w : Int32) (j : Nat) : Int32 := (w >>> (nI (24 - 8 * j) &&& 31)).toInt8.toInt32
theorem f_nar (x : Int32) : vp_nar .byte x.toInt8.toInt32 = x.toInt8.toInt32 := pk_vb x
set_option maxHeartbeats 4000000 in
set_option maxRecDepth 100000 in
theorem M_feed_m {l : Launch} {G : ax_G} (S : x_S) (M : x_M) (tl : List va_E) (a b c0 d e0 : Int32) (n : Nat) (hn : M.1 1 = nI n) (hle : n ≤ 8192) :
    AM l VV G M_feed_y M_feed_c 8 (some .int) 0 0 0 [.ref 150, .int a, .int b, .int c0, .int d, .int e0] (x_hM S M tl) (fun v h' => if 8192 < n + 20 then v = some (.int (-1)) ∧ h' = x_hM S (y_i M 0 0) tl else ∃ f, v = some (.int (nI (n + 20))) ∧ h' = x_hM S (y_A (y_i (y_i M 0 0) 1 (nI (n + 20))) 0 f) tl ∧ (∀ j, j < n → f j = M.2.1 0 j) ∧ ∀ i, i < 20 → f (n + i) = f_b (f_w a b c0 d e0 i) (i % 4)) := by
  refine AM.of (pl := pl_M) (by decide) v_good fl_M_ok kl_M_ok nofun (Nat.le_of_ble_eq_true rfl) ?_
  intro p e s m args below meth c X
  refine AW.run X M_feed_d 0 2 rfl ?_
  refine AW.mp0 X (M_feed_d.d 2 rfl) ?_
  refine AW.run X M_feed_d 3 5 rfl ?_
  refine AW.icmp_le X (M_feed_d.d 8 rfl) (fun q8 => ?_) (fun q8 => ?_)
  · have hlt : n + 20 ≤ 8192 := (nI_leI (by omega) (by decide)).mp (by rw [← nI_add, ← hn]; exact q8)
    refine AW.run X M_feed_d 11 2 rfl ?_
    have L23 : ∀ (t k : Nat) (f : Nat → Int32), k ≤ 20 → 20 - k < t → (∀ j, j < n → f j = M.2.1 0 j) → (∀ i, i < k → f (n + i) = f_b (f_w a b c0 d e0 i) (i % 4)) → AW p l e (ax_R 0 0 0) s m args below meth c VV G 8 (x_hM S (y_A (y_i (y_i M 0 0) 1 (nI (n + k))) 0 f) tl) 0 0 (MQ below (ax_Q VV G (fun v h' => if 8192 < n + 20 then v = some (.int (-1)) ∧ h' = x_hM S (y_i M 0 0) tl else ∃ f, v = some (.int (nI (n + 20))) ∧ h' = x_hM S (y_A (y_i (y_i M 0 0) 1 (nI (n + 20))) 0 f) tl ∧ (∀ j, j < n → f j = M.2.1 0 j) ∧ ∀ i, i < 20 → f (n + i) = f_b (f_w a b c0 d e0 i) (i % 4))) args s 0 0 (fun q => G.bs ≤ q)) 23 [(6, .int (nI k)), (0, .ref 150), (1, .int a), (2, .int b), (3, .int c0), (4, .int d), (5, .int e0)] [] := by
      intro t
      induction t with
      | zero => intro k f h1 h2; exact absurd h2 (by omega)
      | succ t ih =>
        intro k f h1 h2 h3 h4
        refine AW.run X M_feed_d 13 2 rfl ?_
        refine AW.icmp_ge X (M_feed_d.d 15 rfl) (fun q15 => ?_) (fun q15 => ?_)
        · refine AW.run X M_feed_d 61 2 rfl ?_
          exact AW.iret X (M_feed_d.d 63 rfl) (Nat.le_of_ble_eq_true rfl) (Nat.le_of_ble_eq_true rfl) (by
            have hk : ¬ k < 20 := fun z => k2_nlt q15 ((nI_ltI (by omega) (by decide)).mpr z)
            have hk : k = 20 := by omega
            subst hk
            rw [if_neg (by omega)]
            exact ⟨f, rfl, rfl, h3, h4⟩)
        · refine AW.run X M_feed_d 16 2 rfl ?_
          have J76 : ∀ (w : Int32), w = f_w a b c0 d e0 k → AW p l e (ax_R 0 0 0) s m args below meth c VV G 8 (x_hM S (y_A (y_i (y_i M 0 0) 1 (nI (n + k))) 0 f) tl) 0 0 (MQ below (ax_Q VV G (fun v h' => if 8192 < n + 20 then v = some (.int (-1)) ∧ h' = x_hM S (y_i M 0 0) tl else ∃ f, v = some (.int (nI (n + 20))) ∧ h' = x_hM S (y_A (y_i (y_i M 0 0) 1 (nI (n + 20))) 0 f) tl ∧ (∀ j, j < n → f j = M.2.1 0 j) ∧ ∀ i, i < 20 → f (n + i) = f_b (f_w a b c0 d e0 i) (i % 4))) args s 0 0 (fun q => G.bs ≤ q)) 76 [(6, .int (nI k)), (0, .ref 150), (1, .int a), (2, .int b), (3, .int c0), (4, .int d), (5, .int e0)] [.int w] := by
            intro w hw
            refine AW.run X M_feed_d 37 1 rfl ?_
            refine AW.run X M_feed_d 38 9 rfl ?_
            refine AW.irem X (M_feed_d.d 47 rfl) (by decide) ?_
            refine AW.run X M_feed_d 48 4 rfl ?_
            refine AW.ms0 (j := n + k) X rfl (show n + k < 8192 by have := (nI_ltI (a := k) (b := 20) (by omega) (by decide)).mp (k2_lt q15); omega) (M_feed_d.d 52 rfl) ?_
            refine AW.run X M_feed_d 53 5 rfl ?_
            refine AW.mp1 X (M_feed_d.d 58 rfl) ?_
            refine AW.run X M_feed_d 59 1 rfl ?_
            refine AW.goto X (M_feed_d.d 60 rfl) ?_
            refine AW.pk [0, 2, 3, 4, 5, 6, 7] rfl ?_
            have hk : k < 20 := (nI_ltI (by omega) (by decide)).mp (k2_lt q15)
            have e5 : w >>> (((Int8.ofInt 24).toInt32 - (Int8.ofInt 8).toInt32 * (nI k - nI k / Int32.ofInt 4 * Int32.ofInt 4)) &&& 31) = w >>> (nI (24 - 8 * (k % 4)) &&& 31) := by
              rw [show nI k - nI k / Int32.ofInt 4 * Int32.ofInt 4 = nI (k % 4) from pk_rem (by omega) (by decide) (by decide), show (Int8.ofInt 8).toInt32 = nI 8 from by decide, show (Int8.ofInt 24).toInt32 = nI 24 from by decide, pk_mul, pk_sub (by omega)]
            rw [e5, nI_o1]
            exact AW.eq (h' := x_hM S (y_A (y_i (y_i M 0 0) 1 (nI (n + (k + 1)))) 0 (upd f (n + k) (f_b w (k % 4)))) tl) (by rw [y_aA, f_nar]; exact congrArg (fun z => x_hM S z tl) (by rw [← Nat.add_assoc, ← nI_o1 (n + k)]; exact congrArg (fun z => ((z, va_up M.2.1 0 (upd f (n + k) (f_b w (k % 4))), M.2.2) : x_M)) (upd_upd _ _ _ _))) (ih (k + 1) _ (by omega) (by omega) (fun j hj => by rw [pk_un (by omega)]; exact h3 j hj) (fun i hi => by
              by_cases e6 : i = k
              · subst e6; rw [pk_us, hw]
              · rw [pk_un (by omega)]; exact h4 i (by omega)))
          refine AW.icmp_ge X (M_feed_d.d 18 rfl) (fun q18 => ?_) (fun q18 => ?_)
          · refine AW.run X M_feed_d 21 2 rfl ?_
            refine AW.icmp_ge X (M_feed_d.d 23 rfl) (fun q23 => ?_) (fun q23 => ?_)
            · refine AW.run X M_feed_d 26 2 rfl ?_
              refine AW.icmp_ge X (M_feed_d.d 28 rfl) (fun q28 => ?_) (fun q28 => ?_)
              · refine AW.run X M_feed_d 31 2 rfl ?_
                refine AW.icmp_ge X (M_feed_d.d 33 rfl) (fun q33 => ?_) (fun q33 => ?_)
                · refine AW.run X M_feed_d 36 1 rfl ?_
                  exact J76 _ (by rw [f_w, if_neg (fun z => nI_nlt (Nat.le_refl _) (by omega) (Int32.lt_of_lt_of_le ((nI_ltI (a := k) (b := 4) (by omega) (by decide)).mpr z) q18)), if_neg (fun z => nI_nlt (Nat.le_refl _) (by omega) (Int32.lt_of_lt_of_le ((nI_ltI (a := k) (b := 8) (by omega) (by decide)).mpr z) q23)), if_neg (fun z => nI_nlt (Nat.le_refl _) (by omega) (Int32.lt_of_lt_of_le ((nI_ltI (a := k) (b := 12) (by omega) (by decide)).mpr z) q28)), if_neg (fun z => nI_nlt (Nat.le_refl _) (by omega) (Int32.lt_of_lt_of_le ((nI_ltI (a := k) (b := 16) (by omega) (by decide)).mpr z) q33))])
                · refine AW.run X M_feed_d 34 1 rfl ?_
                  refine AW.goto X (M_feed_d.d 35 rfl) ?_
                  exact J76 _ (by rw [f_w, if_neg (fun z => nI_nlt (Nat.le_refl _) (by omega) (Int32.lt_of_lt_of_le ((nI_ltI (a := k) (b := 4) (by omega) (by decide)).mpr z) q18)), if_neg (fun z => nI_nlt (Nat.le_refl _) (by omega) (Int32.lt_of_lt_of_le ((nI_ltI (a := k) (b := 8) (by omega) (by decide)).mpr z) q23)), if_neg (fun z => nI_nlt (Nat.le_refl _) (by omega) (Int32.lt_of_lt_of_le ((nI_ltI (a := k) (b := 12) (by omega) (by decide)).mpr z) q28)), if_pos ((nI_ltI (a := k) (b := 16) (by omega) (by decide)).mp (k2_lt q33))])
              · refine AW.run X M_feed_d 29 1 rfl ?_
                refine AW.goto X (M_feed_d.d 30 rfl) ?_
                exact J76 _ (by rw [f_w, if_neg (fun z => nI_nlt (Nat.le_refl _) (by omega) (Int32.lt_of_lt_of_le ((nI_ltI (a := k) (b := 4) (by omega) (by decide)).mpr z) q18)), if_neg (fun z => nI_nlt (Nat.le_refl _) (by omega) (Int32.lt_of_lt_of_le ((nI_ltI (a := k) (b := 8) (by omega) (by decide)).mpr z) q23)), if_pos ((nI_ltI (a := k) (b := 12) (by omega) (by decide)).mp (k2_lt q28))])
            · refine AW.run X M_feed_d 24 1 rfl ?_
              refine AW.goto X (M_feed_d.d 25 rfl) ?_
              exact J76 _ (by rw [f_w, if_neg (fun z => nI_nlt (Nat.le_refl _) (by omega) (Int32.lt_of_lt_of_le ((nI_ltI (a := k) (b := 4) (by omega) (by decide)).mpr z) q18)), if_pos ((nI_ltI (a := k) (b := 8) (by omega) (by decide)).mp (k2_lt q23))])
          · refine AW.run X M_feed_d 19 1 rfl ?_
            refine AW.goto X (M_feed_d.d 20 rfl) ?_
            exact J76 _ (by rw [f_w, if_pos ((nI_ltI (a := k) (b := 4) (by omega) (by decide)).mp (k2_lt q18))])
    exact AW.eq (by rw [Nat.add_zero, ← hn, show y_i (y_i M 0 0) 1 (M.1 1) = y_i M 0 0 from by unfold y_i; congr 1; funext j; unfold upd; by_cases q : j = 1 <;> simp [q]]; exact congrArg (fun z => x_hM S z tl) (y_A0 (y_i M 0 0) 0).symm) (L23 21 0 (M.2.1 0) (by decide) (by decide) (fun _ _ => rfl) (fun i hi => absurd hi (by omega)))
  · refine AW.run X M_feed_d 9 1 rfl ?_
    exact AW.iret X (M_feed_d.d 10 rfl) (Nat.le_of_ble_eq_true rfl) (Nat.le_of_ble_eq_true rfl) (by rw [if_pos (by have := mt (nI_leI (a := n + 20) (b := 8192) (by omega) (by decide)).mpr (fun z => q8 (by show M.1 1 + nI 20 ≤ nI 8192; rw [hn, nI_add]; exact z)); omega)]; exact ⟨rfl, rfl⟩)
end
section
/-! the reference: is the telling the one said? -/
def tp_p (f : Nat → Int32) (a : Nat) : Prop := f a ≤ f (a + 1)
def tp_i (x : Int32) (lo hi : Int) : Prop := lo ≤ x.toInt ∧ x.toInt ≤ hi
def tp_b (x : Int32) : Prop := x = 1 ∨ x = 2 ∨ x = 4 ∨ x = 8 ∨ x = 12 ∨ x = 16
def tp_P (f : Nat → Int32) (c : Nat) (many k : Nat) : Prop := c = 2 * many ∧ ∀ j, j < k → tp_p f (2 * j)
def tp_S1 (f : Nat → Int32) (c i o k : Nat) : Prop := c = 5 * i + 1 + 4 * o ∧ ∀ j, j < k → tp_p f (5 * j) ∧ tp_i (f (5 * j + 2)) 1 64
def tp_S2 (f : Nat → Int32) (c i o k : Nat) : Prop := tp_S1 f c i o i ∧ tp_b (f (5 * i)) ∧ ∀ j, j < k → tp_p f (5 * i + 1 + 4 * j)
def tp_W (f : Nat → Int32) (c o : Nat) : Prop := c = 3 + 2 * o ∧ tp_p f 0 ∧ tp_i (f 2) 0 16
/-- a choice between two things, decided -/
noncomputable def dc (P : Prop) : Bool := @decide P (Classical.propDecidable P)
theorem dc_t {P : Prop} (h : P) : dc P = true := @decide_eq_true P (Classical.propDecidable P) h
theorem dc_f {P : Prop} (h : ¬ P) : dc P = false := @decide_eq_false P (Classical.propDecidable P) h
theorem dq_t {P : Prop} : ¬ bI (dc P) = 0 ↔ P := by
  by_cases h : P
  · rw [dc_t h]; simp [h, bI]
  · rw [dc_f h]; simp [h, bI]
theorem dq_f {P : Prop} : bI (dc P) = 0 ↔ ¬ P := by
  by_cases h : P
  · rw [dc_t h]; simp [h, bI]
  · rw [dc_f h]; simp [h, bI]
theorem vd_t {P : Prop} (h : P) : some (Value.int (Int32.ofInt 1)) = some (.int (bI (dc P))) := by rw [dc_t h]; rfl
theorem vd_f {P : Prop} (h : ¬ P) : some (Value.int (Int32.ofInt 0)) = some (.int (bI (dc P))) := by rw [dc_f h]; rfl
theorem wd_t {P : Prop} (h : P) : Int32.ofInt 1 = bI (dc P) := by rw [dc_t h]; rfl
theorem wd_f {P : Prop} (h : ¬ P) : Int32.ofInt 0 = bI (dc P) := by rw [dc_f h]; rfl
theorem dc_dec {P : Prop} [Decidable P] : decide P = dc P := by
  by_cases h : P
  · rw [dc_t h, decide_eq_true h]
  · rw [dc_f h, decide_eq_false h]
theorem dc_iff {P Q : Prop} (h : P ↔ Q) : dc P = dc Q := by rw [propext h]
set_option maxHeartbeats 4000000 in
set_option maxRecDepth 100000 in
theorem M_isPair_m {l : Launch} {G : ax_G} (S : x_S) (M : x_M) (tl : List va_E) (a : Nat) (ha : a + 1 < 96) :
    AM l VV G M_isPair_y M_isPair_c 2 (some .boolean) 0 0 0 [.ref 150, .int (nI a)] (x_hM S M tl) (fun v h' => v = some (.int (bI (dc (tp_p (M.2.1 1) a)))) ∧ h' = x_hM S M tl) := by
  refine AM.of (pl := pl_M) (by decide) v_good fl_M_ok kl_M_ok nofun (Nat.le_of_ble_eq_true rfl) ?_
  intro p e s m args below meth c X
  refine AW.run X M_isPair_d 0 3 rfl ?_
  refine AW.ml1 (j := a) X rfl (show a < 96 by omega) (M_isPair_d.d 3 rfl) ?_
  refine AW.run X M_isPair_d 4 5 rfl ?_
  refine AW.ml1 (j := a + 1) X (nI_o1 a) ha (M_isPair_d.d 9 rfl) ?_
  refine AW.icmp_gt X (M_isPair_d.d 10 rfl) (fun q10 => ?_) (fun q10 => ?_)
  · refine AW.run X M_isPair_d 13 1 rfl ?_
    exact AW.zret X n_0 (M_isPair_d.d 14 rfl) (Nat.le_of_ble_eq_true rfl) (Nat.le_of_ble_eq_true rfl) ⟨vd_f (k2_nle q10), rfl⟩
  · refine AW.run X M_isPair_d 11 1 rfl ?_
    refine AW.goto X (M_isPair_d.d 12 rfl) ?_
    exact AW.zret X n_1 (M_isPair_d.d 14 rfl) (Nat.le_of_ble_eq_true rfl) (Nat.le_of_ble_eq_true rfl) ⟨vd_t (k2_le q10), rfl⟩

set_option maxHeartbeats 4000000 in
set_option maxRecDepth 100000 in
theorem M_arePairs_m {l : Launch} {G : ax_G} (S : x_S) (M : x_M) (tl : List va_E) (many n : Nat) (hm : many ≤ 8) (hc : M.1 2 = nI n) (hn : n ≤ 96) :
    AM l VV G M_arePairs_y M_arePairs_c 4 (some .boolean) 1 0 0 [.ref 150, .int (nI many)] (x_hM S M tl) (fun v h' => v = some (.int (bI (dc (tp_P (M.2.1 1) n many many)))) ∧ h' = x_hM S M tl) := by
  refine AM.of (pl := pl_M) (by decide) v_good fl_M_ok kl_M_ok nofun (Nat.le_of_ble_eq_true rfl) ?_
  intro p e s m args below meth c X
  refine AW.run X M_arePairs_d 0 5 rfl ?_
  have J15 : ∀ (z : Int32), z = bI (dc (tp_P (M.2.1 1) n many 0)) → AW p l e (ax_R 1 0 0) s m args below meth c VV G 4 (x_hM S M tl) 0 0 (MQ below (ax_Q VV G (fun v h' => v = some (.int (bI (dc (tp_P (M.2.1 1) n many many)))) ∧ h' = x_hM S M tl)) args s 0 0 (fun q => G.bs ≤ q)) 15 [(0, .ref 150), (1, .int (nI many))] [.int z] := by
    intro z hz
    subst hz
    refine AW.run X M_arePairs_d 9 3 rfl ?_
    have L18 : ∀ (t k : Nat), k ≤ many → many - k < t → AW p l e (ax_R 1 0 0) s m args below meth c VV G 4 (x_hM S M tl) 0 0 (MQ below (ax_Q VV G (fun v h' => v = some (.int (bI (dc (tp_P (M.2.1 1) n many many)))) ∧ h' = x_hM S M tl)) args s 0 0 (fun q => G.bs ≤ q)) 18 [(3, .int (nI k)), (2, .int (bI (dc (tp_P (M.2.1 1) n many k)))), (0, .ref 150), (1, .int (nI many))] [] := by
      intro t
      induction t with
      | zero => intro k h1 h2; exact absurd h2 (by omega)
      | succ t ih =>
        intro k h1 h2
        refine AW.run X M_arePairs_d 12 2 rfl ?_
        refine AW.icmp_ge X (M_arePairs_d.d 14 rfl) (fun q14 => ?_) (fun q14 => ?_)
        · refine AW.run X M_arePairs_d 25 1 rfl ?_
          exact AW.zret X (bI_nar _) (M_arePairs_d.d 26 rfl) (Nat.le_of_ble_eq_true rfl) (Nat.le_of_ble_eq_true rfl) ⟨by rw [show k = many by have := cge q14; omega], rfl⟩
        · refine AW.run X M_arePairs_d 15 1 rfl ?_
          refine AW.if_eq X (M_arePairs_d.d 16 rfl) (fun q16 => ?_) (fun q16 => ?_)
          · refine AW.run X M_arePairs_d 25 1 rfl ?_
            exact AW.zret X (by first | exact n_0 | exact n_1 | exact bI_nar _) (M_arePairs_d.d 26 rfl) (Nat.le_of_ble_eq_true rfl) (Nat.le_of_ble_eq_true rfl) ⟨by rw [dc_iff (Q := tp_P (M.2.1 1) n many many) ⟨fun z => absurd z (dq_f.mp q16), fun z => ⟨z.1, fun j hj => z.2 j (by omega)⟩⟩], rfl⟩
          · refine AW.run X M_arePairs_d 17 4 rfl ?_
            have hP := dq_t.mp q16
            have hk : k < many := clt q14
            rw [show Int32.ofInt 2 * nI k = nI (2 * k) from pk_mul 2 k]
            refine AW.callV (As := [.int (nI (2 * k))]) X (M_isPair_m S M tl (2 * k) (by have := hP.1; omega)) cb_M_125 rfl rfl M_isPair_im M_isPair_se rfl ⟨Nat.le_of_ble_eq_true rfl, Nat.le_of_ble_eq_true rfl⟩ (Nat.le_of_ble_eq_true rfl) ⟨Nat.le_of_ble_eq_true rfl, Nat.le_of_ble_eq_true rfl⟩ (M_arePairs_d.d 21 rfl) (fun v h' q => ?_)
            obtain ⟨rfl, rfl⟩ := q
            refine AW.run X M_arePairs_d 22 2 rfl ?_
            refine AW.goto X (M_arePairs_d.d 24 rfl) ?_
            rw [nI_o1, show dc (tp_p (M.2.1 1) (2 * k)) = dc (tp_P (M.2.1 1) n many (k + 1)) from dc_iff ⟨fun z => ⟨hP.1, fun j hj => by
              by_cases e1 : j = k
              · rw [e1]; exact z
              · exact hP.2 j (by omega)⟩, fun z => z.2 k (by omega)⟩]
            exact ih (k + 1) (by omega) (by omega)
    exact L18 (many + 1) 0 (by omega) (by omega)
  refine AW.icmp_ne X (M_arePairs_d.d 5 rfl) (fun q5 => ?_) (fun q5 => ?_)
  · refine AW.run X M_arePairs_d 8 1 rfl ?_
    exact J15 _ (wd_f (fun z => q5 (by rw [hc, z.1]; exact (pk_mul 2 many).symm)))
  · refine AW.run X M_arePairs_d 6 1 rfl ?_
    refine AW.goto X (M_arePairs_d.d 7 rfl) ?_
    exact J15 _ (wd_t ⟨ceq q5 hc (pk_mul 2 many) (by omega) (by omega), fun j hj => absurd hj (by omega)⟩)

theorem zL_of_i (x : Int32) : zL x.toInt := ⟨by have := (zI_i x).1; omega, by have := (zI_i x).2; omega⟩
set_option maxHeartbeats 4000000 in
set_option maxRecDepth 100000 in
theorem M_isPowers_m {l : Launch} {G : ax_G} (S : x_S) (M : x_M) (tl : List va_E) (out n : Nat) (ho : out ≤ 4) (hc : M.1 2 = nI n) (hn : n ≤ 96) :
    AM l VV G M_isPowers_y M_isPowers_c 2 (some .boolean) 1 0 0 [.ref 150, .int (nI out)] (x_hM S M tl) (fun v h' => v = some (.int (bI (dc (tp_W (M.2.1 1) n out)))) ∧ h' = x_hM S M tl) := by
  refine AM.of (pl := pl_M) (by decide) v_good fl_M_ok kl_M_ok nofun (Nat.le_of_ble_eq_true rfl) ?_
  intro p e s m args below meth c X
  refine AW.run X M_isPowers_d 0 7 rfl ?_
  refine AW.icmp_ne X (M_isPowers_d.d 7 rfl) (fun q7 => ?_) (fun q7 => ?_)
  · refine AW.run X M_isPowers_d 23 1 rfl ?_
    exact AW.zret X n_0 (M_isPowers_d.d 24 rfl) (Nat.le_of_ble_eq_true rfl) (Nat.le_of_ble_eq_true rfl) ⟨vd_f (fun z => q7 (by rw [hc, z.1, show Int32.ofInt 2 * nI out = nI (2 * out) from pk_mul 2 out]; exact (nI_add 3 (2 * out)).symm)), rfl⟩
  · have hn3 : n = 3 + 2 * out := ceq q7 hc (by rw [show Int32.ofInt 2 * nI out = nI (2 * out) from pk_mul 2 out]; exact nI_add 3 (2 * out)) (by omega) (by omega)
    refine AW.run X M_isPowers_d 8 2 rfl ?_
    refine AW.callV (As := [.int (nI 0)]) X (M_isPair_m S M tl 0 (by decide)) cb_M_125 rfl rfl M_isPair_im M_isPair_se rfl ⟨Nat.le_of_ble_eq_true rfl, Nat.le_of_ble_eq_true rfl⟩ (Nat.le_of_ble_eq_true rfl) ⟨Nat.le_of_ble_eq_true rfl, Nat.le_of_ble_eq_true rfl⟩ (M_isPowers_d.d 10 rfl) (fun v h' q => ?_)
    obtain ⟨rfl, rfl⟩ := q
    refine AW.if_eq X (M_isPowers_d.d 11 rfl) (fun q11 => ?_) (fun q11 => ?_)
    · refine AW.run X M_isPowers_d 23 1 rfl ?_
      exact AW.zret X n_0 (M_isPowers_d.d 24 rfl) (Nat.le_of_ble_eq_true rfl) (Nat.le_of_ble_eq_true rfl) ⟨vd_f (fun z => dq_f.mp q11 z.2.1), rfl⟩
    · refine AW.run X M_isPowers_d 12 3 rfl ?_
      refine AW.ml1 (j := 2) X rfl (by decide) (M_isPowers_d.d 15 rfl) ?_
      refine AW.run X M_isPowers_d 16 3 rfl ?_
      rw [i_l, show Int64.ofNat ((0 : Fin 2) : Nat) = lZ 0 from by decide, show (16 : Int64) = lZ 16 from by decide]
      refine AW.callS (As := [.long (lZ (M.2.1 1 2).toInt), .long (lZ 0), .long (lZ 16)]) X (M_isIn_m (M.2.1 1 2).toInt 0 16 (zL_of_i _) ⟨by decide, by decide⟩ ⟨by decide, by decide⟩) cb_M_92 M_isIn_st rfl ⟨Nat.le_of_ble_eq_true rfl, Nat.le_of_ble_eq_true rfl⟩ (Nat.le_of_ble_eq_true rfl) ⟨Nat.le_of_ble_eq_true rfl, Nat.le_of_ble_eq_true rfl⟩ (M_isPowers_d.d 19 rfl) (fun v h' q => ?_)
      obtain ⟨rfl, rfl⟩ := q
      rw [dc_dec]
      refine AW.if_eq X (M_isPowers_d.d 20 rfl) (fun q20 => ?_) (fun q20 => ?_)
      · refine AW.run X M_isPowers_d 23 1 rfl ?_
        exact AW.zret X n_0 (M_isPowers_d.d 24 rfl) (Nat.le_of_ble_eq_true rfl) (Nat.le_of_ble_eq_true rfl) ⟨vd_f (fun z => dq_f.mp q20 z.2.2), rfl⟩
      · refine AW.run X M_isPowers_d 21 1 rfl ?_
        refine AW.goto X (M_isPowers_d.d 22 rfl) ?_
        exact AW.zret X n_1 (M_isPowers_d.d 24 rfl) (Nat.le_of_ble_eq_true rfl) (Nat.le_of_ble_eq_true rfl) ⟨vd_t ⟨hn3, dq_t.mp q11, dq_t.mp q20⟩, rfl⟩

set_option maxHeartbeats 4000000 in
set_option maxRecDepth 100000 in
theorem M_isSamples_m {l : Launch} {G : ax_G} (S : x_S) (M : x_M) (tl : List va_E) (i o n : Nat) (hi : 1 ≤ i ∧ i ≤ 3) (ho : 1 ≤ o ∧ o ≤ 4) (hc : M.1 2 = nI n) (hn : n ≤ 96) :
    AM l VV G M_isSamples_y M_isSamples_c 6 (some .boolean) 1 0 0 [.ref 150, .int (nI i), .int (nI o)] (x_hM S M tl) (fun v h' => v = some (.int (bI (dc (tp_S2 (M.2.1 1) n i o o)))) ∧ h' = x_hM S M tl) := by
  refine AM.of (pl := pl_M) (by decide) v_good fl_M_ok kl_M_ok nofun (Nat.le_of_ble_eq_true rfl) ?_
  intro p e s m args below meth c X
  have e0 : Int32.ofInt 5 * nI i + Int32.ofInt 1 + Int32.ofInt 4 * nI o = nI (5 * i + 1 + 4 * o) := by rw [show Int32.ofInt 5 * nI i = nI (5 * i) from pk_mul 5 i, nI_o1, show Int32.ofInt 4 * nI o = nI (4 * o) from pk_mul 4 o, nI_add]
  refine AW.run X M_isSamples_d 0 11 rfl ?_
  have J21 : ∀ (z : Int32), z = bI (dc (tp_S1 (M.2.1 1) n i o 0)) → AW p l e (ax_R 1 0 0) s m args below meth c VV G 6 (x_hM S M tl) 0 0 (MQ below (ax_Q VV G (fun v h' => v = some (.int (bI (dc (tp_S2 (M.2.1 1) n i o o)))) ∧ h' = x_hM S M tl)) args s 0 0 (fun q => G.bs ≤ q)) 21 [(0, .ref 150), (1, .int (nI i)), (2, .int (nI o))] [.int z] := by
    intro z hz
    subst hz
    refine AW.run X M_isSamples_d 15 1 rfl ?_
    have J80 : ∀ (u : Unit), True → AW p l e (ax_R 1 0 0) s m args below meth c VV G 6 (x_hM S M tl) 0 0 (MQ below (ax_Q VV G (fun v h' => v = some (.int (bI (dc (tp_S2 (M.2.1 1) n i o o)))) ∧ h' = x_hM S M tl)) args s 0 0 (fun q => G.bs ≤ q)) 80 [(3, .int (bI (dc (tp_S1 (M.2.1 1) n i o i)))), (0, .ref 150), (1, .int (nI i)), (2, .int (nI o))] [] := by
      intro u hu
      refine AW.run X M_isSamples_d 48 1 rfl ?_
      have J96 : ∀ (b : Int32), (tp_S1 (M.2.1 1) n i o i → b = (M.2.1 1) (5 * i)) → AW p l e (ax_R 1 0 0) s m args below meth c VV G 6 (x_hM S M tl) 0 0 (MQ below (ax_Q VV G (fun v h' => v = some (.int (bI (dc (tp_S2 (M.2.1 1) n i o o)))) ∧ h' = x_hM S M tl)) args s 0 0 (fun q => G.bs ≤ q)) 96 [(3, .int (bI (dc (tp_S1 (M.2.1 1) n i o i)))), (0, .ref 150), (1, .int (nI i)), (2, .int (nI o))] [.int b] := by
        intro b hb
        refine AW.run X M_isSamples_d 58 2 rfl ?_
        have J146 : ∀ (z : Int32), z = bI (dc (tp_S2 (M.2.1 1) n i o 0)) → AW p l e (ax_R 1 0 0) s m args below meth c VV G 6 (x_hM S M tl) 0 0 (MQ below (ax_Q VV G (fun v h' => v = some (.int (bI (dc (tp_S2 (M.2.1 1) n i o o)))) ∧ h' = x_hM S M tl)) args s 0 0 (fun q => G.bs ≤ q)) 146 [(4, .int b), (3, .int (bI (dc (tp_S1 (M.2.1 1) n i o i)))), (0, .ref 150), (1, .int (nI i)), (2, .int (nI o))] [.int z] := by
          intro z hz
          subst hz
          refine AW.run X M_isSamples_d 82 1 rfl ?_
          have J181 : ∀ (u : Unit), True → AW p l e (ax_R 1 0 0) s m args below meth c VV G 6 (x_hM S M tl) 0 0 (MQ below (ax_Q VV G (fun v h' => v = some (.int (bI (dc (tp_S2 (M.2.1 1) n i o o)))) ∧ h' = x_hM S M tl)) args s 0 0 (fun q => G.bs ≤ q)) 181 [(3, .int (bI (dc (tp_S2 (M.2.1 1) n i o o)))), (0, .ref 150), (1, .int (nI i)), (2, .int (nI o))] [] := by
            intro u hu
            refine AW.run X M_isSamples_d 104 1 rfl ?_
            exact AW.zret X (by first | exact n_0 | exact n_1 | exact bI_nar _) (M_isSamples_d.d 105 rfl) (Nat.le_of_ble_eq_true rfl) (Nat.le_of_ble_eq_true rfl) ⟨rfl, rfl⟩
          refine AW.run X M_isSamples_d 83 2 rfl ?_
          have L150 : ∀ (t k : Nat), k ≤ o → o - k < t → AW p l e (ax_R 1 0 0) s m args below meth c VV G 6 (x_hM S M tl) 0 0 (MQ below (ax_Q VV G (fun v h' => v = some (.int (bI (dc (tp_S2 (M.2.1 1) n i o o)))) ∧ h' = x_hM S M tl)) args s 0 0 (fun q => G.bs ≤ q)) 150 [(5, .int (nI k)), (3, .int (bI (dc (tp_S2 (M.2.1 1) n i o k)))), (0, .ref 150), (1, .int (nI i)), (2, .int (nI o))] [] := by
            intro t
            induction t with
            | zero => intro k h1 h2; exact absurd h2 (by omega)
            | succ t ih =>
              intro k h1 h2
              refine AW.run X M_isSamples_d 85 2 rfl ?_
              refine AW.icmp_ge X (M_isSamples_d.d 87 rfl) (fun q87 => ?_) (fun q87 => ?_)
              · refine AW.pk [1, 2, 3, 4] rfl ?_
                have e9 : k = o := by have := cge q87; omega
                subst e9
                exact J181 () trivial
              · refine AW.run X M_isSamples_d 88 1 rfl ?_
                refine AW.if_eq X (M_isSamples_d.d 89 rfl) (fun q89 => ?_) (fun q89 => ?_)
                · refine AW.pk [1, 2, 3, 4] rfl ?_
                  rw [dc_iff (P := tp_S2 (M.2.1 1) n i o k) (Q := tp_S2 (M.2.1 1) n i o o) ⟨fun z => absurd z (dq_f.mp q89), fun z => ⟨z.1, z.2.1, fun j hj => z.2.2 j (by omega)⟩⟩]
                  exact J181 () trivial
                · refine AW.run X M_isSamples_d 90 10 rfl ?_
                  have hP := dq_t.mp q89
                  have hk : k < o := clt q87
                  rw [show Int32.ofInt 5 * nI i = nI (5 * i) from pk_mul 5 i, nI_o1, show Int32.ofInt 4 * nI k = nI (4 * k) from pk_mul 4 k, nI_add]
                  refine AW.callV (As := [.int (nI (5 * i + 1 + 4 * k))]) X (M_isPair_m S M tl (5 * i + 1 + 4 * k) (by have := hP.1.1; omega)) cb_M_125 rfl rfl M_isPair_im M_isPair_se rfl ⟨Nat.le_of_ble_eq_true rfl, Nat.le_of_ble_eq_true rfl⟩ (Nat.le_of_ble_eq_true rfl) ⟨Nat.le_of_ble_eq_true rfl, Nat.le_of_ble_eq_true rfl⟩ (M_isSamples_d.d 100 rfl) (fun v h' q => ?_)
                  obtain ⟨rfl, rfl⟩ := q
                  refine AW.run X M_isSamples_d 101 2 rfl ?_
                  refine AW.goto X (M_isSamples_d.d 103 rfl) ?_
                  rw [nI_o1, show dc (tp_p (M.2.1 1) (5 * i + 1 + 4 * k)) = dc (tp_S2 (M.2.1 1) n i o (k + 1)) from dc_iff ⟨fun z => ⟨hP.1, hP.2.1, fun j hj => by
                    by_cases e1 : j = k
                    · rw [e1]; exact z
                    · exact hP.2.2 j (by omega)⟩, fun z => z.2.2 k (by omega)⟩]
                  exact ih (k + 1) (by omega) (by omega)
          refine AW.pk [0, 1, 3, 4, 5] rfl ?_
          exact L150 (o + 1) 0 (by omega) (by omega)
        refine AW.if_eq X (M_isSamples_d.d 60 rfl) (fun q60 => ?_) (fun q60 => ?_)
        · refine AW.run X M_isSamples_d 81 1 rfl ?_
          exact J146 _ (wd_f (fun z => dq_f.mp q60 z.1))
        · refine AW.run X M_isSamples_d 61 2 rfl ?_
          refine AW.icmp_eq X (M_isSamples_d.d 63 rfl) (fun q63 => ?_) (fun q63 => ?_)
          · refine AW.run X M_isSamples_d 79 1 rfl ?_
            refine AW.goto X (M_isSamples_d.d 80 rfl) ?_
            exact J146 _ (wd_t ⟨dq_t.mp q60, hb (dq_t.mp q60) ▸ Or.inl q63, fun j hj => absurd hj (by omega)⟩)
          · refine AW.run X M_isSamples_d 64 2 rfl ?_
            refine AW.icmp_eq X (M_isSamples_d.d 66 rfl) (fun q66 => ?_) (fun q66 => ?_)
            · refine AW.run X M_isSamples_d 79 1 rfl ?_
              refine AW.goto X (M_isSamples_d.d 80 rfl) ?_
              exact J146 _ (wd_t ⟨dq_t.mp q60, hb (dq_t.mp q60) ▸ Or.inr (Or.inl q66), fun j hj => absurd hj (by omega)⟩)
            · refine AW.run X M_isSamples_d 67 2 rfl ?_
              refine AW.icmp_eq X (M_isSamples_d.d 69 rfl) (fun q69 => ?_) (fun q69 => ?_)
              · refine AW.run X M_isSamples_d 79 1 rfl ?_
                refine AW.goto X (M_isSamples_d.d 80 rfl) ?_
                exact J146 _ (wd_t ⟨dq_t.mp q60, hb (dq_t.mp q60) ▸ Or.inr (Or.inr (Or.inl q69)), fun j hj => absurd hj (by omega)⟩)
              · refine AW.run X M_isSamples_d 70 2 rfl ?_
                refine AW.icmp_eq X (M_isSamples_d.d 72 rfl) (fun q72 => ?_) (fun q72 => ?_)
                · refine AW.run X M_isSamples_d 79 1 rfl ?_
                  refine AW.goto X (M_isSamples_d.d 80 rfl) ?_
                  exact J146 _ (wd_t ⟨dq_t.mp q60, hb (dq_t.mp q60) ▸ Or.inr (Or.inr (Or.inr (Or.inl q72))), fun j hj => absurd hj (by omega)⟩)
                · refine AW.run X M_isSamples_d 73 2 rfl ?_
                  refine AW.icmp_eq X (M_isSamples_d.d 75 rfl) (fun q75 => ?_) (fun q75 => ?_)
                  · refine AW.run X M_isSamples_d 79 1 rfl ?_
                    refine AW.goto X (M_isSamples_d.d 80 rfl) ?_
                    exact J146 _ (wd_t ⟨dq_t.mp q60, hb (dq_t.mp q60) ▸ Or.inr (Or.inr (Or.inr (Or.inr (Or.inl q75)))), fun j hj => absurd hj (by omega)⟩)
                  · refine AW.run X M_isSamples_d 76 2 rfl ?_
                    refine AW.icmp_ne X (M_isSamples_d.d 78 rfl) (fun q78 => ?_) (fun q78 => ?_)
                    · refine AW.run X M_isSamples_d 81 1 rfl ?_
                      exact J146 _ (wd_f (fun z => (hb z.1 ▸ z.2.1 : tp_b b).elim q63 fun z => z.elim q66 fun z => z.elim q69 fun z => z.elim q72 fun z => z.elim q75 q78))
                    · refine AW.run X M_isSamples_d 79 1 rfl ?_
                      refine AW.goto X (M_isSamples_d.d 80 rfl) ?_
                      exact J146 _ (wd_t ⟨dq_t.mp q60, hb (dq_t.mp q60) ▸ Or.inr (Or.inr (Or.inr (Or.inr (Or.inr q78)))), fun j hj => absurd hj (by omega)⟩)
      refine AW.if_eq X (M_isSamples_d.d 49 rfl) (fun q49 => ?_) (fun q49 => ?_)
      · refine AW.run X M_isSamples_d 57 1 rfl ?_
        exact J96 _ (fun z => absurd z (dq_f.mp q49))
      · refine AW.run X M_isSamples_d 50 5 rfl ?_
        refine AW.ml1 (j := 5 * i) X (pk_mul 5 i) (by omega) (M_isSamples_d.d 55 rfl) ?_
        refine AW.goto X (M_isSamples_d.d 56 rfl) ?_
        exact J96 _ (fun z => rfl)
    refine AW.run X M_isSamples_d 16 2 rfl ?_
    have L25 : ∀ (t k : Nat), k ≤ i → i - k < t → AW p l e (ax_R 1 0 0) s m args below meth c VV G 6 (x_hM S M tl) 0 0 (MQ below (ax_Q VV G (fun v h' => v = some (.int (bI (dc (tp_S2 (M.2.1 1) n i o o)))) ∧ h' = x_hM S M tl)) args s 0 0 (fun q => G.bs ≤ q)) 25 [(4, .int (nI k)), (3, .int (bI (dc (tp_S1 (M.2.1 1) n i o k)))), (0, .ref 150), (1, .int (nI i)), (2, .int (nI o))] [] := by
      intro t
      induction t with
      | zero => intro k h1 h2; exact absurd h2 (by omega)
      | succ t ih =>
        intro k h1 h2
        refine AW.run X M_isSamples_d 18 2 rfl ?_
        refine AW.icmp_ge X (M_isSamples_d.d 20 rfl) (fun q20 => ?_) (fun q20 => ?_)
        · refine AW.pk [1, 2, 3, 4] rfl ?_
          have e9 : k = i := by have := cge q20; omega
          subst e9
          exact J80 () trivial
        · refine AW.run X M_isSamples_d 21 1 rfl ?_
          refine AW.if_eq X (M_isSamples_d.d 22 rfl) (fun q22 => ?_) (fun q22 => ?_)
          · refine AW.pk [1, 2, 3, 4] rfl ?_
            rw [dc_iff (P := tp_S1 (M.2.1 1) n i o k) (Q := tp_S1 (M.2.1 1) n i o i) ⟨fun z => absurd z (dq_f.mp q22), fun z => ⟨z.1, fun j hj => z.2 j (by omega)⟩⟩]
            exact J80 () trivial
          · refine AW.run X M_isSamples_d 23 4 rfl ?_
            have hP := dq_t.mp q22
            have hk : k < i := clt q20
            rw [show Int32.ofInt 5 * nI k = nI (5 * k) from pk_mul 5 k]
            refine AW.callV (As := [.int (nI (5 * k))]) X (M_isPair_m S M tl (5 * k) (by have := hP.1; omega)) cb_M_125 rfl rfl M_isPair_im M_isPair_se rfl ⟨Nat.le_of_ble_eq_true rfl, Nat.le_of_ble_eq_true rfl⟩ (Nat.le_of_ble_eq_true rfl) ⟨Nat.le_of_ble_eq_true rfl, Nat.le_of_ble_eq_true rfl⟩ (M_isSamples_d.d 27 rfl) (fun v h' q => ?_)
            obtain ⟨rfl, rfl⟩ := q
            have J73 : ∀ (z : Int32), z = bI (dc (tp_S1 (M.2.1 1) n i o (k + 1))) → AW p l e (ax_R 1 0 0) s m args below meth c VV G 6 (x_hM S M tl) 0 0 (MQ below (ax_Q VV G (fun v h' => v = some (.int (bI (dc (tp_S2 (M.2.1 1) n i o o)))) ∧ h' = x_hM S M tl)) args s 0 0 (fun q => G.bs ≤ q)) 73 [(4, .int (nI k)), (3, .int (bI (dc (tp_S1 (M.2.1 1) n i o k)))), (0, .ref 150), (1, .int (nI i)), (2, .int (nI o))] [.int z] := by
              intro z hz
              subst hz
              refine AW.run X M_isSamples_d 45 2 rfl ?_
              refine AW.goto X (M_isSamples_d.d 47 rfl) ?_
              rw [nI_o1]
              exact ih (k + 1) (by omega) (by omega)
            refine AW.if_eq X (M_isSamples_d.d 28 rfl) (fun q28 => ?_) (fun q28 => ?_)
            · refine AW.run X M_isSamples_d 44 1 rfl ?_
              exact J73 _ (wd_f (fun z => dq_f.mp q28 (z.2 k (by omega)).1))
            · refine AW.run X M_isSamples_d 29 7 rfl ?_
              refine AW.ml1 (j := 5 * k + 2) X (by rw [show Int32.ofInt 5 * nI k = nI (5 * k) from pk_mul 5 k]; exact nI_add (5 * k) 2) (by omega) (M_isSamples_d.d 36 rfl) ?_
              refine AW.run X M_isSamples_d 37 3 rfl ?_
              rw [i_l, show Int64.ofNat ((1 : Fin 2) : Nat) = lZ 1 from by decide, show (64 : Int64) = lZ 64 from by decide]
              refine AW.callS (As := [.long (lZ ((M.2.1 1) (5 * k + 2)).toInt), .long (lZ 1), .long (lZ 64)]) X (M_isIn_m ((M.2.1 1) (5 * k + 2)).toInt 1 64 (zL_of_i _) ⟨by decide, by decide⟩ ⟨by decide, by decide⟩) cb_M_92 M_isIn_st rfl ⟨Nat.le_of_ble_eq_true rfl, Nat.le_of_ble_eq_true rfl⟩ (Nat.le_of_ble_eq_true rfl) ⟨Nat.le_of_ble_eq_true rfl, Nat.le_of_ble_eq_true rfl⟩ (M_isSamples_d.d 40 rfl) (fun v h' q => ?_)
              obtain ⟨rfl, rfl⟩ := q
              rw [dc_dec]
              refine AW.if_eq X (M_isSamples_d.d 41 rfl) (fun q41 => ?_) (fun q41 => ?_)
              · refine AW.run X M_isSamples_d 44 1 rfl ?_
                exact J73 _ (wd_f (fun z => dq_f.mp q41 (z.2 k (by omega)).2))
              · refine AW.run X M_isSamples_d 42 1 rfl ?_
                refine AW.goto X (M_isSamples_d.d 43 rfl) ?_
                exact J73 _ (wd_t ⟨hP.1, fun j hj => by
                  by_cases e1 : j = k
                  · rw [e1]; exact ⟨dq_t.mp q28, dq_t.mp q41⟩
                  · exact hP.2 j (by omega)⟩)
    exact L25 (i + 1) 0 (by omega) (by omega)
  refine AW.icmp_ne X (M_isSamples_d.d 11 rfl) (fun q11 => ?_) (fun q11 => ?_)
  · refine AW.run X M_isSamples_d 14 1 rfl ?_
    exact J21 _ (wd_f (fun z => q11 (by rw [hc, z.1, e0])))
  · refine AW.run X M_isSamples_d 12 1 rfl ?_
    refine AW.goto X (M_isSamples_d.d 13 rfl) ?_
    exact J21 _ (wd_t ⟨ceq q11 hc e0 (by omega) (by omega), fun j hj => absurd hj (by omega)⟩)

def tp_Z1 (f : Nat → Int32) (c : Nat) : Prop := 3 ≤ c ∧ tp_p f 0 ∧ tp_i (f 2) 1 8
def tp_f (tk gv : Nat → Int32) (m : Nat) (out : Int32) (x : Int32) : Prop := tp_i x 0 ((m : Int) - 1) ∧ tk x.toNatClampNeg = 1 ∧ gv x.toNatClampNeg = out
def tp_Z3 (f tk gv : Nat → Int32) (c m : Nat) (out : Int32) (K k : Nat) : Prop := tp_Z1 f c ∧ c = 4 * K + 2 ∧ ∀ j, j < k → tp_f tk gv m out (f (3 + j))
def tp_Z4 (f tk gv : Nat → Int32) (c m : Nat) (out : Int32) (K k : Nat) : Prop := tp_Z3 f tk gv c m out K K ∧ ∀ j, j < k → (if j = 0 then f 0 else f (2 + K + j)) < f (3 + K + j) ∧ f (3 + K + j) < f 1
/-- how many parts are told -/
def tp_K (f : Nat → Int32) (c K : Nat) : Prop := (tp_Z1 f c → f 2 = nI K ∧ 1 ≤ K ∧ K ≤ 8) ∧ (¬ tp_Z1 f c → K = 0)
theorem i_nat {x : Int32} {n : Nat} (h : x.toInt = n) : x = nI n := by
  rw [iZ_of x, h, iZ_n]
theorem tp_K_ex (f : Nat → Int32) (c : Nat) : ∃ K, tp_K f c K := by
  by_cases h : tp_Z1 f c
  · have h1 := h.2.2.1
    have h2 := h.2.2.2
    exact ⟨(f 2).toInt.toNat, fun _ => ⟨i_nat (by omega), by omega, by omega⟩, fun q => absurd h q⟩
  · exact ⟨0, fun q => absurd q h, fun _ => rfl⟩
theorem tp_f_ix {tk gv : Nat → Int32} {m : Nat} {x : Int32} (h : tp_i x 0 ((m : Int) - 1)) : ∃ n, n < m ∧ x = nI n := by
  have h1 := h.1
  have h2 := h.2
  exact ⟨x.toInt.toNat, by omega, i_nat (by omega)⟩
set_option maxHeartbeats 4000000 in
set_option maxRecDepth 100000 in
theorem M_isStitched_m {l : Launch} {G : ax_G} (S : x_S) (M : x_M) (tl : List va_E) (out n m0 : Nat) (ho : out ≤ 4) (hc : M.1 2 = nI n) (hn : n ≤ 96) (hm : M.1 5 = nI m0) (hm0 : m0 ≤ 24) :
    AM l VV G M_isStitched_y M_isStitched_c 6 (some .boolean) 1 0 0 [.ref 150, .int (nI out)] (x_hM S M tl) (fun v h' => ∃ K, tp_K (M.2.1 1) n K ∧ v = some (.int (bI (dc (tp_Z4 (M.2.1 1) (M.2.1 5) (M.2.1 6) n m0 (nI out) K (K - 1))))) ∧ h' = x_hM S M tl) := by
  refine AM.of (pl := pl_M) (by decide) v_good fl_M_ok kl_M_ok nofun (Nat.le_of_ble_eq_true rfl) ?_
  intro p e s m args below meth c X
  obtain ⟨K, hK⟩ := tp_K_ex (M.2.1 1) n
  have hK8 : K ≤ 8 := by
    by_cases z : tp_Z1 (M.2.1 1) n
    · exact (hK.1 z).2.2
    · rw [hK.2 z]; decide
  refine AW.run X M_isStitched_d 0 3 rfl ?_
  have J38 : ∀ (z : Int32), z = bI (dc (tp_Z1 (M.2.1 1) n)) → AW p l e (ax_R 1 0 0) s m args below meth c VV G 6 (x_hM S M tl) 0 0 (MQ below (ax_Q VV G (fun v h' => ∃ K, tp_K (M.2.1 1) n K ∧ v = some (.int (bI (dc (tp_Z4 (M.2.1 1) (M.2.1 5) (M.2.1 6) n m0 (nI out) K (K - 1))))) ∧ h' = x_hM S M tl)) args s 0 0 (fun q => G.bs ≤ q)) 38 [(0, .ref 150), (1, .int (nI out))] [.int z] := by
    intro z hz
    subst hz
    refine AW.run X M_isStitched_d 20 2 rfl ?_
    have J53 : ∀ (z : Int32), z = nI K → AW p l e (ax_R 1 0 0) s m args below meth c VV G 6 (x_hM S M tl) 0 0 (MQ below (ax_Q VV G (fun v h' => ∃ K, tp_K (M.2.1 1) n K ∧ v = some (.int (bI (dc (tp_Z4 (M.2.1 1) (M.2.1 5) (M.2.1 6) n m0 (nI out) K (K - 1))))) ∧ h' = x_hM S M tl)) args s 0 0 (fun q => G.bs ≤ q)) 53 [(2, .int (bI (dc (tp_Z1 (M.2.1 1) n)))), (0, .ref 150), (1, .int (nI out))] [.int z] := by
      intro z hz
      subst hz
      refine AW.run X M_isStitched_d 29 2 rfl ?_
      have J75 : ∀ (z : Int32), z = bI (dc (tp_Z3 (M.2.1 1) (M.2.1 5) (M.2.1 6) n m0 (nI out) K 0)) → AW p l e (ax_R 1 0 0) s m args below meth c VV G 6 (x_hM S M tl) 0 0 (MQ below (ax_Q VV G (fun v h' => ∃ K, tp_K (M.2.1 1) n K ∧ v = some (.int (bI (dc (tp_Z4 (M.2.1 1) (M.2.1 5) (M.2.1 6) n m0 (nI out) K (K - 1))))) ∧ h' = x_hM S M tl)) args s 0 0 (fun q => G.bs ≤ q)) 75 [(3, .int (nI K)), (2, .int (bI (dc (tp_Z1 (M.2.1 1) n)))), (0, .ref 150), (1, .int (nI out))] [.int z] := by
        intro z hz
        subst hz
        refine AW.run X M_isStitched_d 43 1 rfl ?_
        have J151 : ∀ (u : Unit), True → AW p l e (ax_R 1 0 0) s m args below meth c VV G 6 (x_hM S M tl) 0 0 (MQ below (ax_Q VV G (fun v h' => ∃ K, tp_K (M.2.1 1) n K ∧ v = some (.int (bI (dc (tp_Z4 (M.2.1 1) (M.2.1 5) (M.2.1 6) n m0 (nI out) K (K - 1))))) ∧ h' = x_hM S M tl)) args s 0 0 (fun q => G.bs ≤ q)) 151 [(2, .int (bI (dc (tp_Z3 (M.2.1 1) (M.2.1 5) (M.2.1 6) n m0 (nI out) K K)))), (3, .int (nI K)), (0, .ref 150), (1, .int (nI out))] [] := by
          intro u hu
          have J232 : ∀ (u : Unit), True → AW p l e (ax_R 1 0 0) s m args below meth c VV G 6 (x_hM S M tl) 0 0 (MQ below (ax_Q VV G (fun v h' => ∃ K, tp_K (M.2.1 1) n K ∧ v = some (.int (bI (dc (tp_Z4 (M.2.1 1) (M.2.1 5) (M.2.1 6) n m0 (nI out) K (K - 1))))) ∧ h' = x_hM S M tl)) args s 0 0 (fun q => G.bs ≤ q)) 232 [(2, .int (bI (dc (tp_Z4 (M.2.1 1) (M.2.1 5) (M.2.1 6) n m0 (nI out) K (K - 1))))), (3, .int (nI K)), (0, .ref 150), (1, .int (nI out))] [] := by
            intro u hu
            refine AW.run X M_isStitched_d 133 1 rfl ?_
            exact AW.zret X (by first | exact n_0 | exact n_1 | exact bI_nar _) (M_isStitched_d.d 134 rfl) (Nat.le_of_ble_eq_true rfl) (Nat.le_of_ble_eq_true rfl) ⟨K, hK, rfl, rfl⟩
          refine AW.run X M_isStitched_d 86 2 rfl ?_
          have L154 : ∀ (t k : Nat), k ≤ K - 1 → K - 1 - k < t → AW p l e (ax_R 1 0 0) s m args below meth c VV G 6 (x_hM S M tl) 0 0 (MQ below (ax_Q VV G (fun v h' => ∃ K, tp_K (M.2.1 1) n K ∧ v = some (.int (bI (dc (tp_Z4 (M.2.1 1) (M.2.1 5) (M.2.1 6) n m0 (nI out) K (K - 1))))) ∧ h' = x_hM S M tl)) args s 0 0 (fun q => G.bs ≤ q)) 154 [(4, .int (nI k)), (2, .int (bI (dc (tp_Z4 (M.2.1 1) (M.2.1 5) (M.2.1 6) n m0 (nI out) K k)))), (3, .int (nI K)), (0, .ref 150), (1, .int (nI out))] [] := by
            intro t
            induction t with
            | zero => intro k h1 h2; exact absurd h2 (by omega)
            | succ t ih =>
              intro k h1 h2
              refine AW.run X M_isStitched_d 88 4 rfl ?_
              refine AW.icmp_ge X (M_isStitched_d.d 92 rfl) (fun q92 => ?_) (fun q92 => ?_)
              · refine AW.pk [1, 2, 3, 4] rfl ?_
                have e9 : k = K - 1 := by
                  rcases Nat.eq_zero_or_pos K with z | z
                  · omega
                  · have := cge q92 rfl (pk_sub (b := 1) z) (by omega) (by omega)
                    omega
                subst e9
                exact J232 () trivial
              · refine AW.run X M_isStitched_d 93 1 rfl ?_
                refine AW.if_eq X (M_isStitched_d.d 94 rfl) (fun q94 => ?_) (fun q94 => ?_)
                · refine AW.pk [1, 2, 3, 4] rfl ?_
                  rw [dc_iff (P := tp_Z4 (M.2.1 1) (M.2.1 5) (M.2.1 6) n m0 (nI out) K k) (Q := tp_Z4 (M.2.1 1) (M.2.1 5) (M.2.1 6) n m0 (nI out) K (K - 1)) ⟨fun z => absurd z (dq_f.mp q94), fun z => ⟨z.1, fun j hj => z.2 j (by omega)⟩⟩]
                  exact J232 () trivial
                · have hP := dq_t.mp q94
                  have hk : k < K - 1 := by
                    rcases Nat.eq_zero_or_pos K with z | z
                    · exact absurd (show nI K - Int32.ofInt 1 ≤ nI k by rw [z]; exact Int32.le_trans (by decide) (nI_pos' (n := k) (by omega))) q92
                    · exact clt q92 rfl (pk_sub (b := 1) z) (by omega) (by omega)
                  have hK1 := hK.1 hP.1.1
                  have hnK := hP.1.2.1
                  refine AW.run X M_isStitched_d 95 7 rfl ?_
                  refine AW.ml1 (j := 3 + K + k) X (by rw [show Int32.ofInt 3 + nI K = nI (3 + K) from nI_add 3 K, nI_add]) (by omega) (M_isStitched_d.d 102 rfl) ?_
                  refine AW.run X M_isStitched_d 103 3 rfl ?_
                  have J206 : ∀ (z : Int32), z = (if k = 0 then M.2.1 1 0 else M.2.1 1 (2 + K + k)) → AW p l e (ax_R 1 0 0) s m args below meth c VV G 6 (x_hM S M tl) 0 0 (MQ below (ax_Q VV G (fun v h' => ∃ K, tp_K (M.2.1 1) n K ∧ v = some (.int (bI (dc (tp_Z4 (M.2.1 1) (M.2.1 5) (M.2.1 6) n m0 (nI out) K (K - 1))))) ∧ h' = x_hM S M tl)) args s 0 0 (fun q => G.bs ≤ q)) 206 [(5, .int (M.2.1 1 (3 + K + k))), (4, .int (nI k)), (2, .int (bI (dc (tp_Z4 (M.2.1 1) (M.2.1 5) (M.2.1 6) n m0 (nI out) K k)))), (3, .int (nI K)), (0, .ref 150), (1, .int (nI out))] [.int z, .int (M.2.1 1 (3 + K + k))] := by
                    intro z hz
                    have J225 : ∀ (y : Int32), y = bI (dc (tp_Z4 (M.2.1 1) (M.2.1 5) (M.2.1 6) n m0 (nI out) K (k + 1))) → AW p l e (ax_R 1 0 0) s m args below meth c VV G 6 (x_hM S M tl) 0 0 (MQ below (ax_Q VV G (fun v h' => ∃ K, tp_K (M.2.1 1) n K ∧ v = some (.int (bI (dc (tp_Z4 (M.2.1 1) (M.2.1 5) (M.2.1 6) n m0 (nI out) K (K - 1))))) ∧ h' = x_hM S M tl)) args s 0 0 (fun q => G.bs ≤ q)) 225 [(5, .int (M.2.1 1 (3 + K + k))), (4, .int (nI k)), (2, .int (bI (dc (tp_Z4 (M.2.1 1) (M.2.1 5) (M.2.1 6) n m0 (nI out) K k)))), (3, .int (nI K)), (0, .ref 150), (1, .int (nI out))] [.int y] := by
                      intro y hy
                      subst hy
                      refine AW.run X M_isStitched_d 130 2 rfl ?_
                      refine AW.goto X (M_isStitched_d.d 132 rfl) ?_
                      refine AW.pk [0, 1, 3, 4, 5] rfl ?_
                      rw [nI_o1]
                      exact ih (k + 1) (by omega) (by omega)
                    refine AW.icmp_le X (M_isStitched_d.d 120 rfl) (fun q120 => ?_) (fun q120 => ?_)
                    · refine AW.run X M_isStitched_d 129 1 rfl ?_
                      exact J225 _ (wd_f (fun w => k2_nle (by rw [hz]; exact (w.2 k (by omega)).1) q120))
                    · refine AW.run X M_isStitched_d 121 4 rfl ?_
                      refine AW.ml1 (j := 1) X rfl (by decide) (M_isStitched_d.d 125 rfl) ?_
                      refine AW.icmp_ge X (M_isStitched_d.d 126 rfl) (fun q126 => ?_) (fun q126 => ?_)
                      · refine AW.run X M_isStitched_d 129 1 rfl ?_
                        exact J225 _ (wd_f (fun w => k2_nle (w.2 k (by omega)).2 q126))
                      · refine AW.run X M_isStitched_d 127 1 rfl ?_
                        refine AW.goto X (M_isStitched_d.d 128 rfl) ?_
                        exact J225 _ (wd_t ⟨hP.1, fun j hj => by
                          by_cases e1 : j = k
                          · rw [e1]; exact ⟨by rw [← hz]; exact k2_lt q120, k2_lt q126⟩
                          · exact hP.2 j (by omega)⟩)
                  refine AW.if_ne X (M_isStitched_d.d 106 rfl) (fun q106 => ?_) (fun q106 => ?_)
                  · refine AW.run X M_isStitched_d 112 7 rfl ?_
                    refine AW.ml1 (j := 2 + K + k) X (by rw [show Int32.ofInt 2 + nI K = nI (2 + K) from nI_add 2 K, nI_add]) (by omega) (M_isStitched_d.d 119 rfl) ?_
                    exact J206 _ (by rw [if_neg (fun z => q106 (by rw [z]; rfl))])
                  · refine AW.run X M_isStitched_d 107 3 rfl ?_
                    refine AW.ml1 (j := 0) X rfl (by decide) (M_isStitched_d.d 110 rfl) ?_
                    refine AW.goto X (M_isStitched_d.d 111 rfl) ?_
                    exact J206 _ (by rw [if_pos (ceq q106 rfl (show (0 : Int32) = nI 0 from rfl) (by omega) (by decide))])
          rw [dc_iff (P := tp_Z3 (M.2.1 1) (M.2.1 5) (M.2.1 6) n m0 (nI out) K K) (Q := tp_Z4 (M.2.1 1) (M.2.1 5) (M.2.1 6) n m0 (nI out) K 0) ⟨fun z => ⟨z, fun j hj => absurd hj (by omega)⟩, fun z => z.1⟩]
          exact L154 (K + 1) 0 (by omega) (by omega)
        refine AW.run X M_isStitched_d 44 2 rfl ?_
        have L79 : ∀ (t k : Nat), k ≤ K → K - k < t → AW p l e (ax_R 1 0 0) s m args below meth c VV G 6 (x_hM S M tl) 0 0 (MQ below (ax_Q VV G (fun v h' => ∃ K, tp_K (M.2.1 1) n K ∧ v = some (.int (bI (dc (tp_Z4 (M.2.1 1) (M.2.1 5) (M.2.1 6) n m0 (nI out) K (K - 1))))) ∧ h' = x_hM S M tl)) args s 0 0 (fun q => G.bs ≤ q)) 79 [(4, .int (nI k)), (2, .int (bI (dc (tp_Z3 (M.2.1 1) (M.2.1 5) (M.2.1 6) n m0 (nI out) K k)))), (3, .int (nI K)), (0, .ref 150), (1, .int (nI out))] [] := by
          intro t
          induction t with
          | zero => intro k h1 h2; exact absurd h2 (by omega)
          | succ t ih =>
            intro k h1 h2
            refine AW.run X M_isStitched_d 46 2 rfl ?_
            refine AW.icmp_ge X (M_isStitched_d.d 48 rfl) (fun q48 => ?_) (fun q48 => ?_)
            · refine AW.pk [1, 2, 3, 4] rfl ?_
              have e9 : k = K := by have := cge q48; omega
              subst e9
              exact J151 () trivial
            · refine AW.run X M_isStitched_d 49 1 rfl ?_
              refine AW.if_eq X (M_isStitched_d.d 50 rfl) (fun q50 => ?_) (fun q50 => ?_)
              · refine AW.pk [1, 2, 3, 4] rfl ?_
                rw [dc_iff (P := tp_Z3 (M.2.1 1) (M.2.1 5) (M.2.1 6) n m0 (nI out) K k) (Q := tp_Z3 (M.2.1 1) (M.2.1 5) (M.2.1 6) n m0 (nI out) K K) ⟨fun z => absurd z (dq_f.mp q50), fun z => ⟨z.1, z.2.1, fun j hj => z.2.2 j (by omega)⟩⟩]
                exact J151 () trivial
              · have hP := dq_t.mp q50
                have hk : k < K := clt q48
                have hK1 := hK.1 hP.1
                have hnK := hP.2.1
                refine AW.run X M_isStitched_d 51 5 rfl ?_
                refine AW.ml1 (j := 3 + k) X (nI_add 3 k) (by omega) (M_isStitched_d.d 56 rfl) ?_
                refine AW.run X M_isStitched_d 57 9 rfl ?_
                rw [i_l, i_l, hm, show (nI m0 - Int32.ofInt 1).toInt = (m0 : Int) - 1 from by rw [iZ_n, show Int32.ofInt 1 = iZ 1 from rfl, iZ_sub]; exact iZ_t ⟨by omega, by omega⟩, show Int64.ofNat ((0 : Fin 2) : Nat) = lZ 0 from by decide]
                refine AW.callS (As := [.long (lZ ((M.2.1 1) (3 + k)).toInt), .long (lZ 0), .long (lZ ((m0 : Int) - 1))]) X (M_isIn_m ((M.2.1 1) (3 + k)).toInt 0 ((m0 : Int) - 1) (zL_of_i _) ⟨by decide, by decide⟩ ⟨by omega, by omega⟩) cb_M_92 M_isIn_st rfl ⟨Nat.le_of_ble_eq_true rfl, Nat.le_of_ble_eq_true rfl⟩ (Nat.le_of_ble_eq_true rfl) ⟨Nat.le_of_ble_eq_true rfl, Nat.le_of_ble_eq_true rfl⟩ (M_isStitched_d.d 66 rfl) (fun v h' q => ?_)
                obtain ⟨rfl, rfl⟩ := q
                rw [dc_dec]
                have J144 : ∀ (z : Int32), z = bI (dc (tp_Z3 (M.2.1 1) (M.2.1 5) (M.2.1 6) n m0 (nI out) K (k + 1))) → AW p l e (ax_R 1 0 0) s m args below meth c VV G 6 (x_hM S M tl) 0 0 (MQ below (ax_Q VV G (fun v h' => ∃ K, tp_K (M.2.1 1) n K ∧ v = some (.int (bI (dc (tp_Z4 (M.2.1 1) (M.2.1 5) (M.2.1 6) n m0 (nI out) K (K - 1))))) ∧ h' = x_hM S M tl)) args s 0 0 (fun q => G.bs ≤ q)) 144 [(5, .int (M.2.1 1 (3 + k))), (4, .int (nI k)), (2, .int (bI (dc (tp_Z3 (M.2.1 1) (M.2.1 5) (M.2.1 6) n m0 (nI out) K k)))), (3, .int (nI K)), (0, .ref 150), (1, .int (nI out))] [.int z] := by
                  intro z hz
                  subst hz
                  refine AW.run X M_isStitched_d 83 2 rfl ?_
                  refine AW.goto X (M_isStitched_d.d 85 rfl) ?_
                  refine AW.pk [0, 1, 3, 4, 5] rfl ?_
                  rw [nI_o1]
                  exact ih (k + 1) (by omega) (by omega)
                refine AW.if_eq X (M_isStitched_d.d 67 rfl) (fun q67 => ?_) (fun q67 => ?_)
                · refine AW.run X M_isStitched_d 82 1 rfl ?_
                  exact J144 _ (wd_f (fun w => dq_f.mp q67 (w.2.2 k (by omega)).1))
                · obtain ⟨jx, hj1, hj2⟩ := tp_f_ix (tk := M.2.1 5) (gv := M.2.1 6) (dq_t.mp q67)
                  refine AW.run X M_isStitched_d 68 3 rfl ?_
                  refine AW.ml5 (j := jx) X hj2 (by omega) (M_isStitched_d.d 71 rfl) ?_
                  refine AW.run X M_isStitched_d 72 1 rfl ?_
                  refine AW.icmp_ne X (M_isStitched_d.d 73 rfl) (fun q73 => ?_) (fun q73 => ?_)
                  · refine AW.run X M_isStitched_d 82 1 rfl ?_
                    exact J144 _ (wd_f (fun w => q73 (by have z := (w.2.2 k (by omega)).2.1; rw [hj2, nI_clamp (by omega)] at z; exact z)))
                  · refine AW.run X M_isStitched_d 74 3 rfl ?_
                    refine AW.ml6 (j := jx) X hj2 (by omega) (M_isStitched_d.d 77 rfl) ?_
                    refine AW.run X M_isStitched_d 78 1 rfl ?_
                    refine AW.icmp_ne X (M_isStitched_d.d 79 rfl) (fun q79 => ?_) (fun q79 => ?_)
                    · refine AW.run X M_isStitched_d 82 1 rfl ?_
                      exact J144 _ (wd_f (fun w => q79 (by have z := (w.2.2 k (by omega)).2.2; rw [hj2, nI_clamp (by omega)] at z; exact z)))
                    · refine AW.run X M_isStitched_d 80 1 rfl ?_
                      refine AW.goto X (M_isStitched_d.d 81 rfl) ?_
                      exact J144 _ (wd_t ⟨hP.1, hP.2.1, fun j hj => by
                        by_cases e1 : j = k
                        · rw [e1]; exact ⟨dq_t.mp q67, by rw [hj2, nI_clamp (by omega)]; exact q73, by rw [hj2, nI_clamp (by omega)]; exact q79⟩
                        · exact hP.2.2 j (by omega)⟩)
        exact L79 (K + 1) 0 (by omega) (by omega)
      refine AW.if_eq X (M_isStitched_d.d 31 rfl) (fun q31 => ?_) (fun q31 => ?_)
      · refine AW.run X M_isStitched_d 42 1 rfl ?_
        exact J75 _ (wd_f (fun w => dq_f.mp q31 w.1))
      · have hZ1 := dq_t.mp q31
        refine AW.run X M_isStitched_d 32 7 rfl ?_
        refine AW.icmp_ne X (M_isStitched_d.d 39 rfl) (fun q39 => ?_) (fun q39 => ?_)
        · refine AW.run X M_isStitched_d 42 1 rfl ?_
          exact J75 _ (wd_f (fun w => q39 (by rw [hc, w.2.1, show Int32.ofInt 4 * nI K = nI (4 * K) from pk_mul 4 K]; exact (nI_add (4 * K) 2).symm)))
        · refine AW.run X M_isStitched_d 40 1 rfl ?_
          refine AW.goto X (M_isStitched_d.d 41 rfl) ?_
          exact J75 _ (wd_t ⟨hZ1, ceq q39 hc (by rw [show Int32.ofInt 4 * nI K = nI (4 * K) from pk_mul 4 K]; exact nI_add (4 * K) 2) (by omega) (by omega), fun j hj => absurd hj (by omega)⟩)
    refine AW.if_eq X (M_isStitched_d.d 22 rfl) (fun q22 => ?_) (fun q22 => ?_)
    · refine AW.run X M_isStitched_d 28 1 rfl ?_
      exact J53 _ (by rw [hK.2 (dq_f.mp q22)]; rfl)
    · have hZ1 := dq_t.mp q22
      refine AW.run X M_isStitched_d 23 3 rfl ?_
      refine AW.ml1 (j := 2) X rfl (by decide) (M_isStitched_d.d 26 rfl) ?_
      refine AW.goto X (M_isStitched_d.d 27 rfl) ?_
      exact J53 _ (hK.1 hZ1).1
  refine AW.icmp_lt X (M_isStitched_d.d 3 rfl) (fun q3 => ?_) (fun q3 => ?_)
  · refine AW.run X M_isStitched_d 19 1 rfl ?_
    exact J38 _ (wd_f (fun w => by have := cgt (a := 3) (b := n) q3 (by rfl) hc (by omega) (by omega); have := w.1; omega))
  · refine AW.run X M_isStitched_d 4 2 rfl ?_
    have hn3 : 3 ≤ n := cle (a := 3) (b := n) q3 (by rfl) hc (by omega) (by omega)
    refine AW.callV (As := [.int (nI 0)]) X (M_isPair_m S M tl 0 (by decide)) cb_M_125 rfl rfl M_isPair_im M_isPair_se rfl ⟨Nat.le_of_ble_eq_true rfl, Nat.le_of_ble_eq_true rfl⟩ (Nat.le_of_ble_eq_true rfl) ⟨Nat.le_of_ble_eq_true rfl, Nat.le_of_ble_eq_true rfl⟩ (M_isStitched_d.d 6 rfl) (fun v h' q => ?_)
    obtain ⟨rfl, rfl⟩ := q
    refine AW.if_eq X (M_isStitched_d.d 7 rfl) (fun q7 => ?_) (fun q7 => ?_)
    · refine AW.run X M_isStitched_d 19 1 rfl ?_
      exact J38 _ (wd_f (fun w => dq_f.mp q7 w.2.1))
    · refine AW.run X M_isStitched_d 8 3 rfl ?_
      refine AW.ml1 (j := 2) X rfl (by decide) (M_isStitched_d.d 11 rfl) ?_
      refine AW.run X M_isStitched_d 12 3 rfl ?_
      rw [i_l, show Int64.ofNat ((1 : Fin 2) : Nat) = lZ 1 from by decide, show (8 : Int64) = lZ 8 from by decide]
      refine AW.callS (As := [.long (lZ (M.2.1 1 2).toInt), .long (lZ 1), .long (lZ 8)]) X (M_isIn_m (M.2.1 1 2).toInt 1 8 (zL_of_i _) ⟨by decide, by decide⟩ ⟨by decide, by decide⟩) cb_M_92 M_isIn_st rfl ⟨Nat.le_of_ble_eq_true rfl, Nat.le_of_ble_eq_true rfl⟩ (Nat.le_of_ble_eq_true rfl) ⟨Nat.le_of_ble_eq_true rfl, Nat.le_of_ble_eq_true rfl⟩ (M_isStitched_d.d 15 rfl) (fun v h' q => ?_)
      obtain ⟨rfl, rfl⟩ := q
      rw [dc_dec]
      refine AW.if_eq X (M_isStitched_d.d 16 rfl) (fun q16 => ?_) (fun q16 => ?_)
      · refine AW.run X M_isStitched_d 19 1 rfl ?_
        exact J38 _ (wd_f (fun w => dq_f.mp q16 w.2.2))
      · refine AW.run X M_isStitched_d 17 1 rfl ?_
        refine AW.goto X (M_isStitched_d.d 18 rfl) ?_
        exact J38 _ (wd_t ⟨hn3, dq_t.mp q7, dq_t.mp q16⟩)

set_option maxHeartbeats 4000000 in
set_option maxRecDepth 100000 in
theorem M_isTold0_m {l : Launch} {G : ax_G} (S : x_S) (M : x_M) (tl : List va_E) (i o n : Nat) (hi : 1 ≤ i ∧ i ≤ 3) (ho : 1 ≤ o ∧ o ≤ 4) (hc : M.1 2 = nI n) (hn : n ≤ 96) :
    AM l VV G M_isTold_y M_isTold_c 4 (some .boolean) 2 0 0 [.ref 150, .int (nI 0), .int (nI i), .int (nI o)] (x_hM S M tl) (fun v h' => v = some (.int (bI (dc (tp_S2 (M.2.1 1) n i o o)))) ∧ h' = x_hM S M tl) := by
  refine AM.of (pl := pl_M) (by decide) v_good fl_M_ok kl_M_ok nofun (Nat.le_of_ble_eq_true rfl) ?_
  intro p e s m args below meth c X
  refine AW.run X M_isTold_d 0 1 rfl ?_
  refine AW.tableIn X (M_isTold_d.d 1 rfl) (by decide) (by decide) (off := 31) (by decide) ?_
  refine AW.run X M_isTold_d 2 3 rfl ?_
  refine AW.callV (As := [.int (nI i), .int (nI o)]) X (M_isSamples_m S M tl i o n hi ho hc hn) cb_M_134 rfl rfl M_isSamples_im M_isSamples_se rfl ⟨Nat.le_of_ble_eq_true rfl, Nat.le_of_ble_eq_true rfl⟩ (Nat.le_of_ble_eq_true rfl) ⟨Nat.le_of_ble_eq_true rfl, Nat.le_of_ble_eq_true rfl⟩ (M_isTold_d.d 5 rfl) (fun v h' q => ?_)
  obtain ⟨rfl, rfl⟩ := q
  exact AW.zret X (by first | exact n_0 | exact n_1 | exact bI_nar _) (M_isTold_d.d 6 rfl) (Nat.le_of_ble_eq_true rfl) (Nat.le_of_ble_eq_true rfl) ⟨rfl, rfl⟩

set_option maxHeartbeats 4000000 in
set_option maxRecDepth 100000 in
theorem M_isTold2_m {l : Launch} {G : ax_G} (S : x_S) (M : x_M) (tl : List va_E) (i o n : Nat) (ho : o ≤ 4) (hc : M.1 2 = nI n) (hn : n ≤ 96) :
    AM l VV G M_isTold_y M_isTold_c 4 (some .boolean) 2 0 0 [.ref 150, .int (nI 2), .int (nI i), .int (nI o)] (x_hM S M tl) (fun v h' => v = some (.int (bI (dc (tp_W (M.2.1 1) n o)))) ∧ h' = x_hM S M tl) := by
  refine AM.of (pl := pl_M) (by decide) v_good fl_M_ok kl_M_ok nofun (Nat.le_of_ble_eq_true rfl) ?_
  intro p e s m args below meth c X
  refine AW.run X M_isTold_d 0 1 rfl ?_
  refine AW.tableIn X (M_isTold_d.d 1 rfl) (by decide) (by decide) (off := 38) (by decide) ?_
  refine AW.run X M_isTold_d 7 2 rfl ?_
  refine AW.callV (As := [.int (nI o)]) X (M_isPowers_m S M tl o n ho hc hn) cb_M_138 rfl rfl M_isPowers_im M_isPowers_se rfl ⟨Nat.le_of_ble_eq_true rfl, Nat.le_of_ble_eq_true rfl⟩ (Nat.le_of_ble_eq_true rfl) ⟨Nat.le_of_ble_eq_true rfl, Nat.le_of_ble_eq_true rfl⟩ (M_isTold_d.d 9 rfl) (fun v h' q => ?_)
  obtain ⟨rfl, rfl⟩ := q
  exact AW.zret X (by first | exact n_0 | exact n_1 | exact bI_nar _) (M_isTold_d.d 10 rfl) (Nat.le_of_ble_eq_true rfl) (Nat.le_of_ble_eq_true rfl) ⟨rfl, rfl⟩

set_option maxHeartbeats 4000000 in
set_option maxRecDepth 100000 in
theorem M_isTold3_m {l : Launch} {G : ax_G} (S : x_S) (M : x_M) (tl : List va_E) (i o n m0 : Nat) (ho : o ≤ 4) (hc : M.1 2 = nI n) (hn : n ≤ 96) (hm : M.1 5 = nI m0) (hm0 : m0 ≤ 24) :
    AM l VV G M_isTold_y M_isTold_c 4 (some .boolean) 2 0 0 [.ref 150, .int (nI 3), .int (nI i), .int (nI o)] (x_hM S M tl) (fun v h' => ∃ K, tp_K (M.2.1 1) n K ∧ v = some (.int (bI (dc (tp_Z4 (M.2.1 1) (M.2.1 5) (M.2.1 6) n m0 (nI o) K (K - 1))))) ∧ h' = x_hM S M tl) := by
  refine AM.of (pl := pl_M) (by decide) v_good fl_M_ok kl_M_ok nofun (Nat.le_of_ble_eq_true rfl) ?_
  intro p e s m args below meth c X
  refine AW.run X M_isTold_d 0 1 rfl ?_
  refine AW.tableIn X (M_isTold_d.d 1 rfl) (by decide) (by decide) (off := 44) (by decide) ?_
  refine AW.run X M_isTold_d 11 2 rfl ?_
  refine AW.callV (As := [.int (nI o)]) X (M_isStitched_m S M tl o n m0 ho hc hn hm hm0) cb_M_141 rfl rfl M_isStitched_im M_isStitched_se rfl ⟨Nat.le_of_ble_eq_true rfl, Nat.le_of_ble_eq_true rfl⟩ (Nat.le_of_ble_eq_true rfl) ⟨Nat.le_of_ble_eq_true rfl, Nat.le_of_ble_eq_true rfl⟩ (M_isTold_d.d 13 rfl) (fun v h' q => ?_)
  obtain ⟨K, hK, rfl, rfl⟩ := q
  exact AW.zret X (by first | exact n_0 | exact n_1 | exact bI_nar _) (M_isTold_d.d 14 rfl) (Nat.le_of_ble_eq_true rfl) (Nat.le_of_ble_eq_true rfl) ⟨K, hK, rfl, rfl⟩

set_option maxHeartbeats 4000000 in
set_option maxRecDepth 100000 in
theorem M_isTold4_m {l : Launch} {G : ax_G} (S : x_S) (M : x_M) (tl : List va_E) (i o n : Nat) (hi : 1 ≤ i ∧ i ≤ 4) (ho : 1 ≤ o ∧ o ≤ 4) (hc : M.1 2 = nI n) (hn : n ≤ 96) :
    AM l VV G M_isTold_y M_isTold_c 4 (some .boolean) 2 0 0 [.ref 150, .int (nI 4), .int (nI i), .int (nI o)] (x_hM S M tl) (fun v h' => v = some (.int (bI (dc (tp_P (M.2.1 1) n (i + o) (i + o))))) ∧ h' = x_hM S M tl) := by
  refine AM.of (pl := pl_M) (by decide) v_good fl_M_ok kl_M_ok nofun (Nat.le_of_ble_eq_true rfl) ?_
  intro p e s m args below meth c X
  refine AW.run X M_isTold_d 0 1 rfl ?_
  refine AW.tableOut X (M_isTold_d.d 1 rfl) (by decide) ?_
  refine AW.run X M_isTold_d 15 4 rfl ?_
  rw [nI_add]
  refine AW.callV (As := [.int (nI (i + o))]) X (M_arePairs_m S M tl (i + o) n (by omega) hc hn) cb_M_144 rfl rfl M_arePairs_im M_arePairs_se rfl ⟨Nat.le_of_ble_eq_true rfl, Nat.le_of_ble_eq_true rfl⟩ (Nat.le_of_ble_eq_true rfl) ⟨Nat.le_of_ble_eq_true rfl, Nat.le_of_ble_eq_true rfl⟩ (M_isTold_d.d 19 rfl) (fun v h' q => ?_)
  obtain ⟨rfl, rfl⟩ := q
  exact AW.zret X (by first | exact n_0 | exact n_1 | exact bI_nar _) (M_isTold_d.d 20 rfl) (Nat.le_of_ble_eq_true rfl) (Nat.le_of_ble_eq_true rfl) ⟨rfl, rfl⟩

def tp_k (kind x y : Int32) : Prop := (tp_i x 1 4 ∧ tp_i y 1 4) ∧ (kind = 0 ∧ x ≤ 3 ∨ (kind = 2 ∨ kind = 3) ∧ x = 1 ∨ kind = 4)
set_option maxHeartbeats 4000000 in
set_option maxRecDepth 100000 in
theorem M_isKind_m {l : Launch} {G : ax_G} {h : List va_E} (kind x y : Int32) :
    AM l VV G M_isKind_y M_isKind_c 5 (some .boolean) 1 0 0 [.int kind, .int x, .int y] (h) (fun v h' => v = some (.int (bI (dc (tp_k kind x y)))) ∧ h' = h) := by
  refine AM.of (pl := pl_M) (by decide) v_good fl_M_ok kl_M_ok nofun (Nat.le_of_ble_eq_true rfl) ?_
  intro p e s m args below meth c X
  refine AW.run X M_isKind_d 0 4 rfl ?_
  rw [i_l, show Int64.ofNat ((1 : Fin 2) : Nat) = lZ 1 from by decide, show (4 : Int64) = lZ 4 from by decide]
  refine AW.callS (As := [.long (lZ (x).toInt), .long (lZ 1), .long (lZ 4)]) X (M_isIn_m (x).toInt 1 4 (zL_of_i _) ⟨by decide, by decide⟩ ⟨by decide, by decide⟩) cb_M_92 M_isIn_st rfl ⟨Nat.le_of_ble_eq_true rfl, Nat.le_of_ble_eq_true rfl⟩ (Nat.le_of_ble_eq_true rfl) ⟨Nat.le_of_ble_eq_true rfl, Nat.le_of_ble_eq_true rfl⟩ (M_isKind_d.d 4 rfl) (fun v h' q => ?_)
  obtain ⟨rfl, e9⟩ := q
  rw [e9]
  clear e9
  rw [dc_dec]
  have J29 : ∀ (z : Int32), z = bI (dc (tp_i x 1 4 ∧ tp_i y 1 4)) → AW p l e (ax_R 1 0 0) s m args below meth c VV G 5 (h) 0 0 (MQ below (ax_Q VV G (fun v h' => v = some (.int (bI (dc (tp_k kind x y)))) ∧ h' = h)) args s 0 0 (fun q => G.bs ≤ q)) 29 [(0, .int kind), (1, .int x), (2, .int y)] [.int z] := by
    intro z hz
    subst hz
    refine AW.run X M_isKind_d 15 2 rfl ?_
    have J80 : ∀ (z : Int32), z = bI (dc (kind = 0 ∧ x ≤ 3 ∨ (kind = 2 ∨ kind = 3) ∧ x = 1 ∨ kind = 4)) → AW p l e (ax_R 1 0 0) s m args below meth c VV G 5 (h) 0 0 (MQ below (ax_Q VV G (fun v h' => v = some (.int (bI (dc (tp_k kind x y)))) ∧ h' = h)) args s 0 0 (fun q => G.bs ≤ q)) 80 [(3, .int (bI (dc (tp_i x 1 4 ∧ tp_i y 1 4)))), (0, .int kind), (1, .int x), (2, .int y)] [.int z] := by
      intro z hz
      subst hz
      refine AW.run X M_isKind_d 44 2 rfl ?_
      refine AW.if_eq X (M_isKind_d.d 46 rfl) (fun q46 => ?_) (fun q46 => ?_)
      · refine AW.run X M_isKind_d 51 1 rfl ?_
        exact AW.zret X (by first | exact n_0 | exact n_1 | exact bI_nar _) (M_isKind_d.d 52 rfl) (Nat.le_of_ble_eq_true rfl) (Nat.le_of_ble_eq_true rfl) ⟨vd_f (fun w => dq_f.mp q46 w.1), rfl⟩
      · refine AW.run X M_isKind_d 47 1 rfl ?_
        refine AW.if_eq X (M_isKind_d.d 48 rfl) (fun q48 => ?_) (fun q48 => ?_)
        · refine AW.run X M_isKind_d 51 1 rfl ?_
          exact AW.zret X (by first | exact n_0 | exact n_1 | exact bI_nar _) (M_isKind_d.d 52 rfl) (Nat.le_of_ble_eq_true rfl) (Nat.le_of_ble_eq_true rfl) ⟨vd_f (fun w => dq_f.mp q48 w.2), rfl⟩
        · refine AW.run X M_isKind_d 49 1 rfl ?_
          refine AW.goto X (M_isKind_d.d 50 rfl) ?_
          exact AW.zret X (by first | exact n_0 | exact n_1 | exact bI_nar _) (M_isKind_d.d 52 rfl) (Nat.le_of_ble_eq_true rfl) (Nat.le_of_ble_eq_true rfl) ⟨vd_t ⟨dq_t.mp q46, dq_t.mp q48⟩, rfl⟩
    refine AW.if_ne X (M_isKind_d.d 17 rfl) (fun q17 => ?_) (fun q17 => ?_)
    · refine AW.run X M_isKind_d 25 2 rfl ?_
      refine AW.icmp_eq X (M_isKind_d.d 27 rfl) (fun q27 => ?_) (fun q27 => ?_)
      · refine AW.run X M_isKind_d 31 2 rfl ?_
        refine AW.icmp_ne X (M_isKind_d.d 33 rfl) (fun q33 => ?_) (fun q33 => ?_)
        · refine AW.run X M_isKind_d 36 1 rfl ?_
          refine AW.goto X (M_isKind_d.d 37 rfl) ?_
          exact J80 _ (wd_f (fun w => w.elim (fun a => q17 a.1) (fun w => w.elim (fun a => q33 a.2) (fun a => absurd (q27.symm.trans a) (by decide)))))
        · refine AW.run X M_isKind_d 34 1 rfl ?_
          refine AW.goto X (M_isKind_d.d 35 rfl) ?_
          exact J80 _ (wd_t (Or.inr (Or.inl ⟨Or.inl q27, q33⟩)))
      · refine AW.run X M_isKind_d 28 2 rfl ?_
        refine AW.icmp_ne X (M_isKind_d.d 30 rfl) (fun q30 => ?_) (fun q30 => ?_)
        · refine AW.run X M_isKind_d 38 2 rfl ?_
          refine AW.icmp_ne X (M_isKind_d.d 40 rfl) (fun q40 => ?_) (fun q40 => ?_)
          · refine AW.run X M_isKind_d 43 1 rfl ?_
            exact J80 _ (wd_f (fun w => w.elim (fun a => q17 a.1) (fun w => w.elim (fun a => a.1.elim q27 q30) q40)))
          · refine AW.run X M_isKind_d 41 1 rfl ?_
            refine AW.goto X (M_isKind_d.d 42 rfl) ?_
            exact J80 _ (wd_t (Or.inr (Or.inr q40)))
        · refine AW.run X M_isKind_d 31 2 rfl ?_
          refine AW.icmp_ne X (M_isKind_d.d 33 rfl) (fun q33 => ?_) (fun q33 => ?_)
          · refine AW.run X M_isKind_d 36 1 rfl ?_
            refine AW.goto X (M_isKind_d.d 37 rfl) ?_
            exact J80 _ (wd_f (fun w => w.elim (fun a => q17 a.1) (fun w => w.elim (fun a => q33 a.2) (fun a => absurd (q30.symm.trans a) (by decide)))))
          · refine AW.run X M_isKind_d 34 1 rfl ?_
            refine AW.goto X (M_isKind_d.d 35 rfl) ?_
            exact J80 _ (wd_t (Or.inr (Or.inl ⟨Or.inr q30, q33⟩)))
    · refine AW.run X M_isKind_d 18 2 rfl ?_
      refine AW.icmp_gt X (M_isKind_d.d 20 rfl) (fun q20 => ?_) (fun q20 => ?_)
      · refine AW.run X M_isKind_d 23 1 rfl ?_
        refine AW.goto X (M_isKind_d.d 24 rfl) ?_
        exact J80 _ (wd_f (fun w => w.elim (fun a => k2_nle q20 a.2) (fun w => w.elim (fun a => a.1.elim (fun b => absurd (q17.symm.trans b) (by decide)) (fun b => absurd (q17.symm.trans b) (by decide))) (fun a => absurd (q17.symm.trans a) (by decide)))))
      · refine AW.run X M_isKind_d 21 1 rfl ?_
        refine AW.goto X (M_isKind_d.d 22 rfl) ?_
        exact J80 _ (wd_t (Or.inl ⟨q17, k2_le q20⟩))
  refine AW.if_eq X (M_isKind_d.d 5 rfl) (fun q5 => ?_) (fun q5 => ?_)
  · refine AW.run X M_isKind_d 14 1 rfl ?_
    exact J29 _ (wd_f (fun w => dq_f.mp q5 w.1))
  · refine AW.run X M_isKind_d 6 4 rfl ?_
    rw [i_l, show Int64.ofNat ((1 : Fin 2) : Nat) = lZ 1 from by decide, show (4 : Int64) = lZ 4 from by decide]
    refine AW.callS (As := [.long (lZ (y).toInt), .long (lZ 1), .long (lZ 4)]) X (M_isIn_m (y).toInt 1 4 (zL_of_i _) ⟨by decide, by decide⟩ ⟨by decide, by decide⟩) cb_M_92 M_isIn_st rfl ⟨Nat.le_of_ble_eq_true rfl, Nat.le_of_ble_eq_true rfl⟩ (Nat.le_of_ble_eq_true rfl) ⟨Nat.le_of_ble_eq_true rfl, Nat.le_of_ble_eq_true rfl⟩ (M_isKind_d.d 10 rfl) (fun v h' q => ?_)
    obtain ⟨rfl, e9⟩ := q
    rw [e9]
    clear e9
    rw [dc_dec]
    refine AW.if_eq X (M_isKind_d.d 11 rfl) (fun q11 => ?_) (fun q11 => ?_)
    · refine AW.run X M_isKind_d 14 1 rfl ?_
      exact J29 _ (wd_f (fun w => dq_f.mp q11 w.2))
    · refine AW.run X M_isKind_d 12 1 rfl ?_
      refine AW.goto X (M_isKind_d.d 13 rfl) ?_
      exact J29 _ (wd_t ⟨dq_t.mp q5, dq_t.mp q11⟩)

set_option maxHeartbeats 4000000 in
set_option maxRecDepth 100000 in
theorem M_signAt_m {l : Launch} {G : ax_G} (S : x_S) (M : x_M) (tl : List va_E) (f k : Nat) (hk : 8192 * f + k < 196608) :
    AM l VV G M_signAt_y M_signAt_c 3 (some .int) 0 0 0 [.ref 150, .int (nI f), .int (nI k)] (x_hM S M tl) (fun v h' => v = some (.int (M.2.1 9 (8192 * f + k) &&& 255)) ∧ h' = x_hM S M tl) := by
  refine AM.of (pl := pl_M) (by decide) v_good fl_M_ok kl_M_ok nofun (Nat.le_of_ble_eq_true rfl) ?_
  intro p e s m args below meth c X
  refine AW.run X M_signAt_d 0 7 rfl ?_
  refine AW.ml9 (j := 8192 * f + k) X (by rw [show (Int16.ofInt 8192).toInt32 * nI f = nI (8192 * f) from pk_mul 8192 f, nI_add]) hk (M_signAt_d.d 7 rfl) ?_
  refine AW.run X M_signAt_d 8 2 rfl ?_
  exact AW.iret X (M_signAt_d.d 10 rfl) (Nat.le_of_ble_eq_true rfl) (Nat.le_of_ble_eq_true rfl) ⟨rfl, rfl⟩

set_option maxHeartbeats 4000000 in
set_option maxRecDepth 100000 in
theorem M_show_m {l : Launch} {G : ax_G} (S : x_S) (M : x_M) (tl : List va_E) (a b : Int32) :
    AM l VV G M_show_y M_show_c 3 none 0 0 0 [.ref 150, .int a, .int b] (x_hM S M tl) (fun v h' => v = none ∧ h' = (if M.1 7 = 0 then x_hM S (y_i (y_i M 7 a) 8 b) tl else x_hM S M tl)) := by
  refine AM.of (pl := pl_M) (by decide) v_good fl_M_ok kl_M_ok nofun (Nat.le_of_ble_eq_true rfl) ?_
  intro p e s m args below meth c X
  refine AW.run X M_show_d 0 2 rfl ?_
  refine AW.if_ne X (M_show_d.d 2 rfl) (fun q2 => ?_) (fun q2 => ?_)
  · exact AW.vret X (M_show_d.d 9 rfl) (Nat.le_of_ble_eq_true rfl) (Nat.le_of_ble_eq_true rfl) ⟨rfl, by rw [if_neg q2]⟩
  · refine AW.run X M_show_d 3 2 rfl ?_
    refine AW.mp7 X (M_show_d.d 5 rfl) ?_
    refine AW.run X M_show_d 6 2 rfl ?_
    refine AW.mp8 X (M_show_d.d 8 rfl) ?_
    exact AW.vret X (M_show_d.d 9 rfl) (Nat.le_of_ble_eq_true rfl) (Nat.le_of_ble_eq_true rfl) ⟨rfl, by rw [if_pos q2]⟩

/-- how many samples: the product of the sizes from 0 to k, times out -/
def tp_n (f : Nat → Int32) (o : Nat) : Nat → Int
  | 0 => o
  | k + 1 => tp_n f o k * (f (5 * k + 2)).toInt
theorem tp_n_bd {f : Nat → Int32} {o : Nat} (ho : 1 ≤ o ∧ o ≤ 4) {k : Nat} (hk : k ≤ 3) (h : ∀ j, j < k → tp_i (f (5 * j + 2)) 1 64) : 1 ≤ tp_n f o k ∧ tp_n f o k ≤ 4 * 64 ^ k := by
  induction k with
  | zero => exact ⟨by show (1 : Int) ≤ o; omega, by show (o : Int) ≤ _; omega⟩
  | succ k ih =>
    obtain ⟨a, b⟩ := ih (by omega) (fun j hj => h j (by omega))
    have c := h k (by omega)
    have c1 := c.1
    have c2 := c.2
    constructor
    · show 1 ≤ tp_n f o k * _
      calc (1 : Int) = 1 * 1 := rfl
        _ ≤ _ := Int.mul_le_mul a c1 (by decide) (by omega)
    · show tp_n f o k * _ ≤ _
      rw [Int.pow_succ, ← Int.mul_assoc]
      exact Int.mul_le_mul b c2 (by omega) (Int.mul_nonneg (by decide) (Int.pow_nonneg (by decide)))
/-- how many bytes the samples want -/
def tp_y (f : Nat → Int32) (i o : Nat) : Int := (tp_n f o i * (f (5 * i)).toInt + 7) / 8
theorem tp_y_bd {f : Nat → Int32} {c i o k : Nat} (hi : 1 ≤ i ∧ i ≤ 3) (ho : 1 ≤ o ∧ o ≤ 4) (h : tp_S2 f c i o k) : 1 ≤ tp_n f o i ∧ tp_n f o i ≤ 1048576 ∧ 1 ≤ (f (5 * i)).toInt ∧ (f (5 * i)).toInt ≤ 16 ∧ 1 ≤ tp_n f o i * (f (5 * i)).toInt ∧ tp_n f o i * (f (5 * i)).toInt ≤ 16777216 := by
  obtain ⟨a, b⟩ := tp_n_bd (f := f) ho hi.2 (fun j hj => (h.1.2 j hj).2)
  have e : (4 * 64 ^ i : Int) ≤ 1048576 := by
    have : i = 1 ∨ i = 2 ∨ i = 3 := by omega
    rcases this with rfl | rfl | rfl <;> decide
  have hb : 1 ≤ (f (5 * i)).toInt ∧ (f (5 * i)).toInt ≤ 16 := by
    rcases h.2.1 with z | z | z | z | z | z <;> rw [z] <;> decide
  refine ⟨a, by omega, hb.1, hb.2, ?_, ?_⟩
  · calc (1 : Int) = 1 * 1 := rfl
      _ ≤ _ := Int.mul_le_mul a hb.1 (by decide) (by omega)
  · calc _ ≤ (1048576 : Int) * 16 := Int.mul_le_mul (by omega) hb.2 (by omega) (by decide)
      _ = _ := by decide
set_option maxHeartbeats 4000000 in
set_option maxRecDepth 100000 in
theorem M_sampleBytes_m {l : Launch} {G : ax_G} (S : x_S) (M : x_M) (tl : List va_E) (i o c : Nat) (hi : 1 ≤ i ∧ i ≤ 3) (ho : 1 ≤ o ∧ o ≤ 4) (hS : tp_S2 (M.2.1 1) c i o o) :
    AM l VV G M_sampleBytes_y M_sampleBytes_c 6 (some .int) 0 0 0 [.ref 150, .int (nI i), .int (nI o)] (x_hM S M tl) (fun v h' => v = some (.int (iZ (tp_y (M.2.1 1) i o))) ∧ h' = x_hM S M tl) := by
  refine AM.of (pl := pl_M) (by decide) v_good fl_M_ok kl_M_ok nofun (Nat.le_of_ble_eq_true rfl) ?_
  intro p e s m args below meth c X
  refine AW.run X M_sampleBytes_d 0 5 rfl ?_
  have L6 : ∀ (t k : Nat), k ≤ i → i - k < t → AW p l e (ax_R 0 0 0) s m args below meth c VV G 6 (x_hM S M tl) 0 0 (MQ below (ax_Q VV G (fun v h' => v = some (.int (iZ (tp_y (M.2.1 1) i o))) ∧ h' = x_hM S M tl)) args s 0 0 (fun q => G.bs ≤ q)) 6 [(5, .int (nI k)), (3, .long (lZ (tp_n (M.2.1 1) o k))), (0, .ref 150), (1, .int (nI i)), (2, .int (nI o))] [] := by
    intro t
    induction t with
    | zero => intro k h1 h2; exact absurd h2 (by omega)
    | succ t ih =>
      intro k h1 h2
      refine AW.run X M_sampleBytes_d 5 2 rfl ?_
      refine AW.icmp_ge X (M_sampleBytes_d.d 7 rfl) (fun q7 => ?_) (fun q7 => ?_)
      · have e9 : i = k := by have := cge q7; omega
        subst e9
        obtain ⟨b1, b2, b3, b4, b5, b6⟩ := tp_y_bd hi ho hS
        refine AW.run X M_sampleBytes_d 22 6 rfl ?_
        refine AW.ml1 (j := 5 * i) X (pk_mul 5 i) (by omega) (M_sampleBytes_d.d 28 rfl) ?_
        refine AW.run X M_sampleBytes_d 29 5 rfl ?_
        rw [i_l, lZ_mul, show (7 : Int64) = lZ 7 from rfl, lZ_add]
        refine AW.ldiv X (M_sampleBytes_d.d 34 rfl) (by decide) ?_
        rw [show (8 : Int64) = lZ 8 from rfl, lZ_div ⟨by omega, by omega⟩ ⟨by decide, by decide⟩ (Or.inr (by decide))]
        refine AW.run X M_sampleBytes_d 35 1 rfl ?_
        exact AW.iret X (M_sampleBytes_d.d 36 rfl) (Nat.le_of_ble_eq_true rfl) (Nat.le_of_ble_eq_true rfl) ⟨by rw [lZ_i, Int.tdiv_eq_ediv_of_nonneg (by omega)]; rfl, rfl⟩
      · have hk : k < i := clt q7
        refine AW.run X M_sampleBytes_d 8 8 rfl ?_
        refine AW.ml1 (j := 5 * k + 2) X (by rw [show Int32.ofInt 5 * nI k = nI (5 * k) from pk_mul 5 k]; exact nI_add (5 * k) 2) (show 5 * k + 2 < 96 by omega) (M_sampleBytes_d.d 16 rfl) ?_
        refine AW.run X M_sampleBytes_d 17 4 rfl ?_
        refine AW.goto X (M_sampleBytes_d.d 21 rfl) ?_
        rw [nI_o1, i_l, lZ_mul]
        exact ih (k + 1) (by omega) (by omega)
  rw [show (nI o).toInt64 = lZ (tp_n (M.2.1 1) o 0) from by rw [iZ_n]; exact iZ_l ⟨by omega, by omega⟩]
  exact L6 (i + 1) 0 (by omega) (by omega)
end
section
/-! the class: is the telling the one said? small methods -/
theorem ii_lt {x : Int32} {a : Int} (h : zI a) : x < iZ a ↔ x.toInt < a := by rw [Int32.lt_iff_toInt_lt, iZ_t h]
theorem ii_gt {x : Int32} {a : Int} (h : zI a) : iZ a < x ↔ a < x.toInt := by rw [Int32.lt_iff_toInt_lt, iZ_t h]
theorem ii_le {x : Int32} {a : Int} (h : zI a) : x ≤ iZ a ↔ x.toInt ≤ a := by rw [Int32.le_iff_toInt_le, iZ_t h]
theorem ii_ge {x : Int32} {a : Int} (h : zI a) : iZ a ≤ x ↔ a ≤ x.toInt := by rw [Int32.le_iff_toInt_le, iZ_t h]
theorem sb_c (x : Int32) : (x.toInt < 1 ∨ 16 < x.toInt) ∨ x = 1 ∨ x = 2 ∨ x = 3 ∨ x = 4 ∨ x = 5 ∨ x = 6 ∨ x = 7 ∨ x = 8 ∨ x = 9 ∨ x = 10 ∨ x = 11 ∨ x = 12 ∨ x = 13 ∨ x = 14 ∨ x = 15 ∨ x = 16 := by
  have h : (x.toInt < 1 ∨ 16 < x.toInt) ∨ x.toInt = 1 ∨ x.toInt = 2 ∨ x.toInt = 3 ∨ x.toInt = 4 ∨ x.toInt = 5 ∨ x.toInt = 6 ∨ x.toInt = 7 ∨ x.toInt = 8 ∨ x.toInt = 9 ∨ x.toInt = 10 ∨ x.toInt = 11 ∨ x.toInt = 12 ∨ x.toInt = 13 ∨ x.toInt = 14 ∨ x.toInt = 15 ∨ x.toInt = 16 := by omega
  have e : ∀ {a : Int32}, x.toInt = a.toInt → x = a := fun h => Int32.toInt_inj.mp h
  rcases h with h | h | h | h | h | h | h | h | h | h | h | h | h | h | h | h | h
  · exact Or.inl h
  · exact Or.inr (Or.inl (e (a := 1) h))
  · exact Or.inr (Or.inr (Or.inl (e (a := 2) h)))
  · exact Or.inr (Or.inr (Or.inr (Or.inl (e (a := 3) h))))
  · exact Or.inr (Or.inr (Or.inr (Or.inr (Or.inl (e (a := 4) h)))))
  · exact Or.inr (Or.inr (Or.inr (Or.inr (Or.inr (Or.inl (e (a := 5) h))))))
  · exact Or.inr (Or.inr (Or.inr (Or.inr (Or.inr (Or.inr (Or.inl (e (a := 6) h)))))))
  · exact Or.inr (Or.inr (Or.inr (Or.inr (Or.inr (Or.inr (Or.inr (Or.inl (e (a := 7) h))))))))
  · exact Or.inr (Or.inr (Or.inr (Or.inr (Or.inr (Or.inr (Or.inr (Or.inr (Or.inl (e (a := 8) h)))))))))
  · exact Or.inr (Or.inr (Or.inr (Or.inr (Or.inr (Or.inr (Or.inr (Or.inr (Or.inr (Or.inl (e (a := 9) h))))))))))
  · exact Or.inr (Or.inr (Or.inr (Or.inr (Or.inr (Or.inr (Or.inr (Or.inr (Or.inr (Or.inr (Or.inl (e (a := 10) h)))))))))))
  · exact Or.inr (Or.inr (Or.inr (Or.inr (Or.inr (Or.inr (Or.inr (Or.inr (Or.inr (Or.inr (Or.inr (Or.inl (e (a := 11) h))))))))))))
  · exact Or.inr (Or.inr (Or.inr (Or.inr (Or.inr (Or.inr (Or.inr (Or.inr (Or.inr (Or.inr (Or.inr (Or.inr (Or.inl (e (a := 12) h)))))))))))))
  · exact Or.inr (Or.inr (Or.inr (Or.inr (Or.inr (Or.inr (Or.inr (Or.inr (Or.inr (Or.inr (Or.inr (Or.inr (Or.inr (Or.inl (e (a := 13) h))))))))))))))
  · exact Or.inr (Or.inr (Or.inr (Or.inr (Or.inr (Or.inr (Or.inr (Or.inr (Or.inr (Or.inr (Or.inr (Or.inr (Or.inr (Or.inr (Or.inl (e (a := 14) h)))))))))))))))
  · exact Or.inr (Or.inr (Or.inr (Or.inr (Or.inr (Or.inr (Or.inr (Or.inr (Or.inr (Or.inr (Or.inr (Or.inr (Or.inr (Or.inr (Or.inr (Or.inl (e (a := 15) h))))))))))))))))
  · exact Or.inr (Or.inr (Or.inr (Or.inr (Or.inr (Or.inr (Or.inr (Or.inr (Or.inr (Or.inr (Or.inr (Or.inr (Or.inr (Or.inr (Or.inr (Or.inr ((e (a := 16) h)))))))))))))))))

set_option maxHeartbeats 4000000 in
set_option maxRecDepth 100000 in
theorem T_isPair_m {l : Launch} {G : ax_G} (S : x_S) (tl : List va_E) (a : Nat) (ha : a + 1 < 96) :
    AM l VV G T_isPair_y T_isPair_c 2 (some .boolean) 0 0 0 [.ref 131, .int (nI a)] (x_hC S tl) (fun v h' => v = some (.int (bI (dc (tp_p (S.2.1 1) a)))) ∧ h' = x_hC S tl) := by
  refine AM.of (pl := pl_T) (by decide) v_good fl_T_ok kl_T_ok nofun (Nat.le_of_ble_eq_true rfl) ?_
  intro p e s m args below meth c X
  refine AW.run X T_isPair_d 0 3 rfl ?_
  refine AW.cl1 (j := a) X rfl (show a < 96 by omega) (T_isPair_d.d 3 rfl) ?_
  refine AW.run X T_isPair_d 4 5 rfl ?_
  refine AW.cl1 (j := a + 1) X (nI_o1 a) ha (T_isPair_d.d 9 rfl) ?_
  refine AW.icmp_gt X (T_isPair_d.d 10 rfl) (fun q10 => ?_) (fun q10 => ?_)
  · refine AW.run X T_isPair_d 13 1 rfl ?_
    exact AW.zret X n_0 (T_isPair_d.d 14 rfl) (Nat.le_of_ble_eq_true rfl) (Nat.le_of_ble_eq_true rfl) ⟨vd_f (k2_nle q10), rfl⟩
  · refine AW.run X T_isPair_d 11 1 rfl ?_
    refine AW.goto X (T_isPair_d.d 12 rfl) ?_
    exact AW.zret X n_1 (T_isPair_d.d 14 rfl) (Nat.le_of_ble_eq_true rfl) (Nat.le_of_ble_eq_true rfl) ⟨vd_t (k2_le q10), rfl⟩

set_option maxHeartbeats 4000000 in
set_option maxRecDepth 100000 in
theorem T_isOneOf_m {l : Launch} {G : ax_G} (S : x_S) (tl : List va_E) (a : Nat) (lo hi : Int) (ha : a < 96) (hlo : zI lo) (hhi : zI hi) :
    AM l VV G T_isOneOf_y T_isOneOf_c 4 (some .boolean) 0 0 0 [.ref 131, .int (nI a), .int (iZ lo), .int (iZ hi)] (x_hC S tl) (fun v h' => v = some (.int (bI (dc (tp_i ((S.2.1 1) a) lo hi)))) ∧ h' = x_hC S tl) := by
  refine AM.of (pl := pl_T) (by decide) v_good fl_T_ok kl_T_ok nofun (Nat.le_of_ble_eq_true rfl) ?_
  intro p e s m args below meth c X
  refine AW.run X T_isOneOf_d 0 3 rfl ?_
  refine AW.cl1 (j := a) X rfl ha (T_isOneOf_d.d 3 rfl) ?_
  refine AW.run X T_isOneOf_d 4 1 rfl ?_
  refine AW.icmp_lt X (T_isOneOf_d.d 5 rfl) (fun q5 => ?_) (fun q5 => ?_)
  · refine AW.run X T_isOneOf_d 14 1 rfl ?_
    exact AW.zret X n_0 (T_isOneOf_d.d 15 rfl) (Nat.le_of_ble_eq_true rfl) (Nat.le_of_ble_eq_true rfl) ⟨vd_f (fun z => by have := (ii_lt hlo).mp q5; have := z.1; omega), rfl⟩
  · refine AW.run X T_isOneOf_d 6 3 rfl ?_
    refine AW.cl1 (j := a) X rfl ha (T_isOneOf_d.d 9 rfl) ?_
    refine AW.run X T_isOneOf_d 10 1 rfl ?_
    refine AW.icmp_gt X (T_isOneOf_d.d 11 rfl) (fun q11 => ?_) (fun q11 => ?_)
    · refine AW.run X T_isOneOf_d 14 1 rfl ?_
      exact AW.zret X n_0 (T_isOneOf_d.d 15 rfl) (Nat.le_of_ble_eq_true rfl) (Nat.le_of_ble_eq_true rfl) ⟨vd_f (fun z => by have := (ii_gt hhi).mp q11; have := z.2; omega), rfl⟩
    · refine AW.run X T_isOneOf_d 12 1 rfl ?_
      refine AW.goto X (T_isOneOf_d.d 13 rfl) ?_
      exact AW.zret X n_1 (T_isOneOf_d.d 15 rfl) (Nat.le_of_ble_eq_true rfl) (Nat.le_of_ble_eq_true rfl) ⟨vd_t ⟨Int.not_lt.mp (fun z => q5 ((ii_lt hlo).mpr z)), Int.not_lt.mp (fun z => q11 ((ii_gt hhi).mpr z))⟩, rfl⟩

set_option maxHeartbeats 4000000 in
set_option maxRecDepth 100000 in
theorem T_isSampleBits_m {l : Launch} {G : ax_G} {h : List va_E} (x : Int32) :
    AM l VV G T_isSampleBits_y T_isSampleBits_c 1 (some .boolean) 0 0 0 [.int x] (h) (fun v h' => v = some (.int (bI (dc (tp_b x)))) ∧ h' = h) := by
  refine AM.of (pl := pl_T) (by decide) v_good fl_T_ok kl_T_ok nofun (Nat.le_of_ble_eq_true rfl) ?_
  intro p e s m args below meth c X
  refine AW.run X T_isSampleBits_d 0 1 rfl ?_
  rcases sb_c x with z | z | z | z | z | z | z | z | z | z | z | z | z | z | z | z | z
  · refine AW.tableOut X (T_isSampleBits_d.d 1 rfl) z ?_
    refine AW.run X T_isSampleBits_d 4 1 rfl ?_
    exact AW.zret X n_0 (T_isSampleBits_d.d 5 rfl) (Nat.le_of_ble_eq_true rfl) (Nat.le_of_ble_eq_true rfl) ⟨vd_f (by rintro (e | e | e | e | e | e) <;> rw [e] at z <;> exact absurd z (by decide)), rfl⟩
  · subst z
    refine AW.tableIn X (T_isSampleBits_d.d 1 rfl) (by decide) (by decide) (off := 79) (by decide) ?_
    refine AW.run X T_isSampleBits_d 2 1 rfl ?_
    exact AW.zret X n_1 (T_isSampleBits_d.d 3 rfl) (Nat.le_of_ble_eq_true rfl) (Nat.le_of_ble_eq_true rfl) ⟨vd_t (by unfold tp_b; decide), rfl⟩
  · subst z
    refine AW.tableIn X (T_isSampleBits_d.d 1 rfl) (by decide) (by decide) (off := 79) (by decide) ?_
    refine AW.run X T_isSampleBits_d 2 1 rfl ?_
    exact AW.zret X n_1 (T_isSampleBits_d.d 3 rfl) (Nat.le_of_ble_eq_true rfl) (Nat.le_of_ble_eq_true rfl) ⟨vd_t (by unfold tp_b; decide), rfl⟩
  · subst z
    refine AW.tableIn X (T_isSampleBits_d.d 1 rfl) (by decide) (by decide) (off := 81) (by decide) ?_
    refine AW.run X T_isSampleBits_d 4 1 rfl ?_
    exact AW.zret X n_0 (T_isSampleBits_d.d 5 rfl) (Nat.le_of_ble_eq_true rfl) (Nat.le_of_ble_eq_true rfl) ⟨vd_f (by unfold tp_b; decide), rfl⟩
  · subst z
    refine AW.tableIn X (T_isSampleBits_d.d 1 rfl) (by decide) (by decide) (off := 79) (by decide) ?_
    refine AW.run X T_isSampleBits_d 2 1 rfl ?_
    exact AW.zret X n_1 (T_isSampleBits_d.d 3 rfl) (Nat.le_of_ble_eq_true rfl) (Nat.le_of_ble_eq_true rfl) ⟨vd_t (by unfold tp_b; decide), rfl⟩
  · subst z
    refine AW.tableIn X (T_isSampleBits_d.d 1 rfl) (by decide) (by decide) (off := 81) (by decide) ?_
    refine AW.run X T_isSampleBits_d 4 1 rfl ?_
    exact AW.zret X n_0 (T_isSampleBits_d.d 5 rfl) (Nat.le_of_ble_eq_true rfl) (Nat.le_of_ble_eq_true rfl) ⟨vd_f (by unfold tp_b; decide), rfl⟩
  · subst z
    refine AW.tableIn X (T_isSampleBits_d.d 1 rfl) (by decide) (by decide) (off := 81) (by decide) ?_
    refine AW.run X T_isSampleBits_d 4 1 rfl ?_
    exact AW.zret X n_0 (T_isSampleBits_d.d 5 rfl) (Nat.le_of_ble_eq_true rfl) (Nat.le_of_ble_eq_true rfl) ⟨vd_f (by unfold tp_b; decide), rfl⟩
  · subst z
    refine AW.tableIn X (T_isSampleBits_d.d 1 rfl) (by decide) (by decide) (off := 81) (by decide) ?_
    refine AW.run X T_isSampleBits_d 4 1 rfl ?_
    exact AW.zret X n_0 (T_isSampleBits_d.d 5 rfl) (Nat.le_of_ble_eq_true rfl) (Nat.le_of_ble_eq_true rfl) ⟨vd_f (by unfold tp_b; decide), rfl⟩
  · subst z
    refine AW.tableIn X (T_isSampleBits_d.d 1 rfl) (by decide) (by decide) (off := 79) (by decide) ?_
    refine AW.run X T_isSampleBits_d 2 1 rfl ?_
    exact AW.zret X n_1 (T_isSampleBits_d.d 3 rfl) (Nat.le_of_ble_eq_true rfl) (Nat.le_of_ble_eq_true rfl) ⟨vd_t (by unfold tp_b; decide), rfl⟩
  · subst z
    refine AW.tableIn X (T_isSampleBits_d.d 1 rfl) (by decide) (by decide) (off := 81) (by decide) ?_
    refine AW.run X T_isSampleBits_d 4 1 rfl ?_
    exact AW.zret X n_0 (T_isSampleBits_d.d 5 rfl) (Nat.le_of_ble_eq_true rfl) (Nat.le_of_ble_eq_true rfl) ⟨vd_f (by unfold tp_b; decide), rfl⟩
  · subst z
    refine AW.tableIn X (T_isSampleBits_d.d 1 rfl) (by decide) (by decide) (off := 81) (by decide) ?_
    refine AW.run X T_isSampleBits_d 4 1 rfl ?_
    exact AW.zret X n_0 (T_isSampleBits_d.d 5 rfl) (Nat.le_of_ble_eq_true rfl) (Nat.le_of_ble_eq_true rfl) ⟨vd_f (by unfold tp_b; decide), rfl⟩
  · subst z
    refine AW.tableIn X (T_isSampleBits_d.d 1 rfl) (by decide) (by decide) (off := 81) (by decide) ?_
    refine AW.run X T_isSampleBits_d 4 1 rfl ?_
    exact AW.zret X n_0 (T_isSampleBits_d.d 5 rfl) (Nat.le_of_ble_eq_true rfl) (Nat.le_of_ble_eq_true rfl) ⟨vd_f (by unfold tp_b; decide), rfl⟩
  · subst z
    refine AW.tableIn X (T_isSampleBits_d.d 1 rfl) (by decide) (by decide) (off := 79) (by decide) ?_
    refine AW.run X T_isSampleBits_d 2 1 rfl ?_
    exact AW.zret X n_1 (T_isSampleBits_d.d 3 rfl) (Nat.le_of_ble_eq_true rfl) (Nat.le_of_ble_eq_true rfl) ⟨vd_t (by unfold tp_b; decide), rfl⟩
  · subst z
    refine AW.tableIn X (T_isSampleBits_d.d 1 rfl) (by decide) (by decide) (off := 81) (by decide) ?_
    refine AW.run X T_isSampleBits_d 4 1 rfl ?_
    exact AW.zret X n_0 (T_isSampleBits_d.d 5 rfl) (Nat.le_of_ble_eq_true rfl) (Nat.le_of_ble_eq_true rfl) ⟨vd_f (by unfold tp_b; decide), rfl⟩
  · subst z
    refine AW.tableIn X (T_isSampleBits_d.d 1 rfl) (by decide) (by decide) (off := 81) (by decide) ?_
    refine AW.run X T_isSampleBits_d 4 1 rfl ?_
    exact AW.zret X n_0 (T_isSampleBits_d.d 5 rfl) (Nat.le_of_ble_eq_true rfl) (Nat.le_of_ble_eq_true rfl) ⟨vd_f (by unfold tp_b; decide), rfl⟩
  · subst z
    refine AW.tableIn X (T_isSampleBits_d.d 1 rfl) (by decide) (by decide) (off := 81) (by decide) ?_
    refine AW.run X T_isSampleBits_d 4 1 rfl ?_
    exact AW.zret X n_0 (T_isSampleBits_d.d 5 rfl) (Nat.le_of_ble_eq_true rfl) (Nat.le_of_ble_eq_true rfl) ⟨vd_f (by unfold tp_b; decide), rfl⟩
  · subst z
    refine AW.tableIn X (T_isSampleBits_d.d 1 rfl) (by decide) (by decide) (off := 79) (by decide) ?_
    refine AW.run X T_isSampleBits_d 2 1 rfl ?_
    exact AW.zret X n_1 (T_isSampleBits_d.d 3 rfl) (Nat.le_of_ble_eq_true rfl) (Nat.le_of_ble_eq_true rfl) ⟨vd_t (by unfold tp_b; decide), rfl⟩

set_option maxHeartbeats 4000000 in
set_option maxRecDepth 100000 in
theorem T_saysSamples_m {l : Launch} {G : ax_G} (S : x_S) (tl : List va_E) (i o n : Nat) (hi : 1 ≤ i ∧ i ≤ 3) (ho : 1 ≤ o ∧ o ≤ 4) (hc : S.1 2 = nI n) (hn : n ≤ 96) :
    AM l VV G T_saysSamples_y T_saysSamples_c 6 (some .boolean) 1 0 0 [.ref 131, .int (nI i), .int (nI o)] (x_hC S tl) (fun v h' => v = some (.int (bI (dc (tp_S2 (S.2.1 1) n i o o)))) ∧ h' = x_hC S tl) := by
  refine AM.of (pl := pl_T) (by decide) v_good fl_T_ok kl_T_ok nofun (Nat.le_of_ble_eq_true rfl) ?_
  intro p e s m args below meth c X
  have e0 : Int32.ofInt 5 * nI i + Int32.ofInt 1 + Int32.ofInt 4 * nI o = nI (5 * i + 1 + 4 * o) := by rw [show Int32.ofInt 5 * nI i = nI (5 * i) from pk_mul 5 i, nI_o1, show Int32.ofInt 4 * nI o = nI (4 * o) from pk_mul 4 o, nI_add]
  refine AW.run X T_saysSamples_d 0 13 rfl ?_
  refine AW.icmp_ne X (T_saysSamples_d.d 13 rfl) (fun q13 => ?_) (fun q13 => ?_)
  · refine AW.run X T_saysSamples_d 20 1 rfl ?_
    exact AW.zret X n_0 (T_saysSamples_d.d 21 rfl) (Nat.le_of_ble_eq_true rfl) (Nat.le_of_ble_eq_true rfl) ⟨vd_f (fun z => q13 (by rw [hc, z.1.1, e0])), rfl⟩
  · have hn9 : n = 5 * i + 1 + 4 * o := ceq q13 hc e0 (by omega) (by omega)
    refine AW.run X T_saysSamples_d 14 3 rfl ?_
    refine AW.cl1 (j := 5 * i) X (pk_mul 5 i) (by omega) (T_saysSamples_d.d 17 rfl) ?_
    refine AW.callS (As := [.int (S.2.1 1 (5 * i))]) X (T_isSampleBits_m _) cb_T_19 T_isSampleBits_st rfl ⟨Nat.le_of_ble_eq_true rfl, Nat.le_of_ble_eq_true rfl⟩ (Nat.le_of_ble_eq_true rfl) ⟨Nat.le_of_ble_eq_true rfl, Nat.le_of_ble_eq_true rfl⟩ (T_saysSamples_d.d 18 rfl) (fun v h' q => ?_)
    obtain ⟨rfl, rfl⟩ := q
    refine AW.if_ne X (T_saysSamples_d.d 19 rfl) (fun q19 => ?_) (fun q19 => ?_)
    · have hb := dq_t.mp q19
      refine AW.run X T_saysSamples_d 22 2 rfl ?_
      have L35 : ∀ (t k : Nat), k ≤ i → i - k < t → (∀ j, j < k → tp_p (S.2.1 1) (5 * j) ∧ tp_i ((S.2.1 1) (5 * j + 2)) 1 64) → AW p l e (ax_R 1 0 0) s m args below meth c VV G 6 (x_hC S tl) 0 0 (MQ below (ax_Q VV G (fun v h' => v = some (.int (bI (dc (tp_S2 (S.2.1 1) n i o o)))) ∧ h' = x_hC S tl)) args s 0 0 (fun q => G.bs ≤ q)) 35 [(4, .int (nI k)), (3, .int (nI (5 * i))), (0, .ref 131), (1, .int (nI i)), (2, .int (nI o))] [] := by
        intro t
        induction t with
        | zero => intro k h1 h2; exact absurd h2 (by omega)
        | succ t ih =>
          intro k h1 h2 h3
          refine AW.run X T_saysSamples_d 24 2 rfl ?_
          refine AW.icmp_ge X (T_saysSamples_d.d 26 rfl) (fun q26 => ?_) (fun q26 => ?_)
          · refine AW.run X T_saysSamples_d 47 2 rfl ?_
            have L81 : ∀ (t k : Nat), k ≤ o → o - k < t → (∀ j, j < k → tp_p (S.2.1 1) (5 * i + 1 + 4 * j)) → AW p l e (ax_R 1 0 0) s m args below meth c VV G 6 (x_hC S tl) 0 0 (MQ below (ax_Q VV G (fun v h' => v = some (.int (bI (dc (tp_S2 (S.2.1 1) n i o o)))) ∧ h' = x_hC S tl)) args s 0 0 (fun q => G.bs ≤ q)) 81 [(4, .int (nI k)), (3, .int (nI (5 * i))), (0, .ref 131), (1, .int (nI i)), (2, .int (nI o))] [] := by
              have g3 : ∀ j, j < i → tp_p (S.2.1 1) (5 * j) ∧ tp_i ((S.2.1 1) (5 * j + 2)) 1 64 := fun j hj => h3 j (by have := cge q26; omega)
              intro t
              induction t with
              | zero => intro k h1 h2; exact absurd h2 (by omega)
              | succ t ih =>
                intro k h1 h2 h3
                refine AW.run X T_saysSamples_d 49 2 rfl ?_
                refine AW.icmp_ge X (T_saysSamples_d.d 51 rfl) (fun q51 => ?_) (fun q51 => ?_)
                · refine AW.run X T_saysSamples_d 66 1 rfl ?_
                  exact AW.zret X n_1 (T_saysSamples_d.d 67 rfl) (Nat.le_of_ble_eq_true rfl) (Nat.le_of_ble_eq_true rfl) ⟨vd_t ⟨⟨hn9, g3⟩, hb, fun j hj => h3 j (by have := cge q51; omega)⟩, rfl⟩
                · have hk : k < o := clt q51
                  refine AW.run X T_saysSamples_d 52 8 rfl ?_
                  rw [nI_o1, show Int32.ofInt 4 * nI k = nI (4 * k) from pk_mul 4 k, nI_add]
                  refine AW.callV (As := [.int (nI (5 * i + 1 + 4 * k))]) X (T_isPair_m S tl (5 * i + 1 + 4 * k) (by omega)) cb_T_23 rfl rfl T_isPair_im T_isPair_se rfl ⟨Nat.le_of_ble_eq_true rfl, Nat.le_of_ble_eq_true rfl⟩ (Nat.le_of_ble_eq_true rfl) ⟨Nat.le_of_ble_eq_true rfl, Nat.le_of_ble_eq_true rfl⟩ (T_saysSamples_d.d 60 rfl) (fun v h' q => ?_)
                  obtain ⟨rfl, rfl⟩ := q
                  refine AW.if_ne X (T_saysSamples_d.d 61 rfl) (fun q61 => ?_) (fun q61 => ?_)
                  · refine AW.run X T_saysSamples_d 64 1 rfl ?_
                    refine AW.goto X (T_saysSamples_d.d 65 rfl) ?_
                    rw [nI_o1]
                    exact ih (k + 1) (by omega) (by omega) (fun j hj => by
                      by_cases e1 : j = k
                      · rw [e1]; exact dq_t.mp q61
                      · exact h3 j (by omega))
                  · refine AW.run X T_saysSamples_d 62 1 rfl ?_
                    exact AW.zret X n_0 (T_saysSamples_d.d 63 rfl) (Nat.le_of_ble_eq_true rfl) (Nat.le_of_ble_eq_true rfl) ⟨vd_f (fun z => dq_f.mp q61 (z.2.2 k hk)), rfl⟩
            exact L81 (o + 1) 0 (by omega) (by omega) (fun j hj => absurd hj (by omega))
          · have hk : k < i := clt q26
            refine AW.run X T_saysSamples_d 27 6 rfl ?_
            rw [show Int32.ofInt 5 * nI k = nI (5 * k) from pk_mul 5 k]
            refine AW.callV (As := [.int (nI (5 * k))]) X (T_isPair_m S tl (5 * k) (by omega)) cb_T_23 rfl rfl T_isPair_im T_isPair_se rfl ⟨Nat.le_of_ble_eq_true rfl, Nat.le_of_ble_eq_true rfl⟩ (Nat.le_of_ble_eq_true rfl) ⟨Nat.le_of_ble_eq_true rfl, Nat.le_of_ble_eq_true rfl⟩ (T_saysSamples_d.d 33 rfl) (fun v h' q => ?_)
            obtain ⟨rfl, rfl⟩ := q
            refine AW.if_eq X (T_saysSamples_d.d 34 rfl) (fun q34 => ?_) (fun q34 => ?_)
            · refine AW.run X T_saysSamples_d 43 1 rfl ?_
              exact AW.zret X n_0 (T_saysSamples_d.d 44 rfl) (Nat.le_of_ble_eq_true rfl) (Nat.le_of_ble_eq_true rfl) ⟨vd_f (fun z => dq_f.mp q34 (z.1.2 k hk).1), rfl⟩
            · refine AW.run X T_saysSamples_d 35 6 rfl ?_
              rw [show nI (5 * k) + Int32.ofInt 2 = nI (5 * k + 2) from nI_add (5 * k) 2]
              refine AW.callV (As := [.int (nI (5 * k + 2)), .int (iZ 1), .int (iZ 64)]) X (T_isOneOf_m S tl (5 * k + 2) 1 64 (by omega) ⟨by decide, by decide⟩ ⟨by decide, by decide⟩) cb_T_26 rfl rfl T_isOneOf_im T_isOneOf_se rfl ⟨Nat.le_of_ble_eq_true rfl, Nat.le_of_ble_eq_true rfl⟩ (Nat.le_of_ble_eq_true rfl) ⟨Nat.le_of_ble_eq_true rfl, Nat.le_of_ble_eq_true rfl⟩ (T_saysSamples_d.d 41 rfl) (fun v h' q => ?_)
              obtain ⟨rfl, rfl⟩ := q
              refine AW.if_ne X (T_saysSamples_d.d 42 rfl) (fun q42 => ?_) (fun q42 => ?_)
              · refine AW.run X T_saysSamples_d 45 1 rfl ?_
                refine AW.goto X (T_saysSamples_d.d 46 rfl) ?_
                refine AW.pk [0, 2, 3, 4, 5] rfl ?_
                rw [nI_o1]
                exact ih (k + 1) (by omega) (by omega) (fun j hj => by
                  by_cases e1 : j = k
                  · rw [e1]; exact ⟨dq_t.mp q34, dq_t.mp q42⟩
                  · exact h3 j (by omega))
              · refine AW.run X T_saysSamples_d 43 1 rfl ?_
                exact AW.zret X n_0 (T_saysSamples_d.d 44 rfl) (Nat.le_of_ble_eq_true rfl) (Nat.le_of_ble_eq_true rfl) ⟨vd_f (fun z => dq_f.mp q42 (z.1.2 k hk).2), rfl⟩
      rw [show Int32.ofInt 5 * nI i = nI (5 * i) from pk_mul 5 i]
      exact L35 (i + 1) 0 (by omega) (by omega) (fun j hj => absurd hj (by omega))
    · refine AW.run X T_saysSamples_d 20 1 rfl ?_
      exact AW.zret X n_0 (T_saysSamples_d.d 21 rfl) (Nat.le_of_ble_eq_true rfl) (Nat.le_of_ble_eq_true rfl) ⟨vd_f (fun z => dq_f.mp q19 z.2.1), rfl⟩

set_option maxHeartbeats 4000000 in
set_option maxRecDepth 100000 in
theorem T_saysPowers_m {l : Launch} {G : ax_G} (S : x_S) (tl : List va_E) (o n : Nat) (ho : o ≤ 4) (hc : S.1 2 = nI n) (hn : n ≤ 96) :
    AM l VV G T_saysPowers_y T_saysPowers_c 2 (some .boolean) 1 0 0 [.ref 131, .int (nI o)] (x_hC S tl) (fun v h' => v = some (.int (bI (dc (tp_W (S.2.1 1) n o)))) ∧ h' = x_hC S tl) := by
  refine AM.of (pl := pl_T) (by decide) v_good fl_T_ok kl_T_ok nofun (Nat.le_of_ble_eq_true rfl) ?_
  intro p e s m args below meth c X
  refine AW.run X T_saysPowers_d 0 7 rfl ?_
  refine AW.icmp_ne X (T_saysPowers_d.d 7 rfl) (fun q7 => ?_) (fun q7 => ?_)
  · refine AW.run X T_saysPowers_d 20 1 rfl ?_
    exact AW.zret X n_0 (T_saysPowers_d.d 21 rfl) (Nat.le_of_ble_eq_true rfl) (Nat.le_of_ble_eq_true rfl) ⟨vd_f (fun z => q7 (by rw [hc, z.1, show Int32.ofInt 2 * nI o = nI (2 * o) from pk_mul 2 o]; exact (nI_add 3 (2 * o)).symm)), rfl⟩
  · have hn3 : n = 3 + 2 * o := ceq q7 hc (by rw [show Int32.ofInt 2 * nI o = nI (2 * o) from pk_mul 2 o]; exact nI_add 3 (2 * o)) (by omega) (by omega)
    refine AW.run X T_saysPowers_d 8 2 rfl ?_
    refine AW.callV (As := [.int (nI 0)]) X (T_isPair_m S tl 0 (by decide)) cb_T_23 rfl rfl T_isPair_im T_isPair_se rfl ⟨Nat.le_of_ble_eq_true rfl, Nat.le_of_ble_eq_true rfl⟩ (Nat.le_of_ble_eq_true rfl) ⟨Nat.le_of_ble_eq_true rfl, Nat.le_of_ble_eq_true rfl⟩ (T_saysPowers_d.d 10 rfl) (fun v h' q => ?_)
    obtain ⟨rfl, rfl⟩ := q
    refine AW.if_eq X (T_saysPowers_d.d 11 rfl) (fun q11 => ?_) (fun q11 => ?_)
    · refine AW.run X T_saysPowers_d 20 1 rfl ?_
      exact AW.zret X n_0 (T_saysPowers_d.d 21 rfl) (Nat.le_of_ble_eq_true rfl) (Nat.le_of_ble_eq_true rfl) ⟨vd_f (fun z => dq_f.mp q11 z.2.1), rfl⟩
    · refine AW.run X T_saysPowers_d 12 4 rfl ?_
      refine AW.callV (As := [.int (nI 2), .int (iZ 0), .int (iZ 16)]) X (T_isOneOf_m S tl 2 0 16 (by decide) ⟨by decide, by decide⟩ ⟨by decide, by decide⟩) cb_T_26 rfl rfl T_isOneOf_im T_isOneOf_se rfl ⟨Nat.le_of_ble_eq_true rfl, Nat.le_of_ble_eq_true rfl⟩ (Nat.le_of_ble_eq_true rfl) ⟨Nat.le_of_ble_eq_true rfl, Nat.le_of_ble_eq_true rfl⟩ (T_saysPowers_d.d 16 rfl) (fun v h' q => ?_)
      obtain ⟨rfl, rfl⟩ := q
      refine AW.if_eq X (T_saysPowers_d.d 17 rfl) (fun q17 => ?_) (fun q17 => ?_)
      · refine AW.run X T_saysPowers_d 20 1 rfl ?_
        exact AW.zret X n_0 (T_saysPowers_d.d 21 rfl) (Nat.le_of_ble_eq_true rfl) (Nat.le_of_ble_eq_true rfl) ⟨vd_f (fun z => dq_f.mp q17 z.2.2), rfl⟩
      · refine AW.run X T_saysPowers_d 18 1 rfl ?_
        refine AW.goto X (T_saysPowers_d.d 19 rfl) ?_
        exact AW.zret X n_1 (T_saysPowers_d.d 21 rfl) (Nat.le_of_ble_eq_true rfl) (Nat.le_of_ble_eq_true rfl) ⟨vd_t ⟨hn3, dq_t.mp q11, dq_t.mp q17⟩, rfl⟩

set_option maxHeartbeats 4000000 in
set_option maxRecDepth 100000 in
theorem T_saysProgram_m {l : Launch} {G : ax_G} (S : x_S) (tl : List va_E) (i o n : Nat) (hi : 1 ≤ i ∧ i ≤ 4) (ho : 1 ≤ o ∧ o ≤ 4) (hc : S.1 2 = nI n) (hn : n ≤ 96) :
    AM l VV G T_saysProgram_y T_saysProgram_c 5 (some .boolean) 1 0 0 [.ref 131, .int (nI i), .int (nI o)] (x_hC S tl) (fun v h' => v = some (.int (bI (dc (tp_P (S.2.1 1) n (i + o) (i + o))))) ∧ h' = x_hC S tl) := by
  refine AM.of (pl := pl_T) (by decide) v_good fl_T_ok kl_T_ok nofun (Nat.le_of_ble_eq_true rfl) ?_
  intro p e s m args below meth c X
  have e0 : Int32.ofInt 2 * (nI i + nI o) = nI (2 * (i + o)) := by rw [nI_add]; exact pk_mul 2 (i + o)
  refine AW.run X T_saysProgram_d 0 9 rfl ?_
  refine AW.icmp_eq X (T_saysProgram_d.d 9 rfl) (fun q9 => ?_) (fun q9 => ?_)
  · have hn9 : n = 2 * (i + o) := ceq q9 hc e0 (by omega) (by omega)
    refine AW.run X T_saysProgram_d 12 2 rfl ?_
    have L19 : ∀ (t k : Nat), k ≤ i + o → i + o - k < t → (∀ j, j < k → tp_p (S.2.1 1) (2 * j)) → AW p l e (ax_R 1 0 0) s m args below meth c VV G 5 (x_hC S tl) 0 0 (MQ below (ax_Q VV G (fun v h' => v = some (.int (bI (dc (tp_P (S.2.1 1) n (i + o) (i + o))))) ∧ h' = x_hC S tl)) args s 0 0 (fun q => G.bs ≤ q)) 19 [(4, .int (nI k)), (3, .int (nI (i + o))), (0, .ref 131), (1, .int (nI i)), (2, .int (nI o))] [] := by
      intro t
      induction t with
      | zero => intro k h1 h2; exact absurd h2 (by omega)
      | succ t ih =>
        intro k h1 h2 h3
        refine AW.run X T_saysProgram_d 14 2 rfl ?_
        refine AW.icmp_ge X (T_saysProgram_d.d 16 rfl) (fun q16 => ?_) (fun q16 => ?_)
        · refine AW.run X T_saysProgram_d 27 1 rfl ?_
          exact AW.zret X n_1 (T_saysProgram_d.d 28 rfl) (Nat.le_of_ble_eq_true rfl) (Nat.le_of_ble_eq_true rfl) ⟨vd_t ⟨hn9, fun j hj => h3 j (by have := cge q16; omega)⟩, rfl⟩
        · have hk : k < i + o := clt q16
          refine AW.run X T_saysProgram_d 17 4 rfl ?_
          rw [show Int32.ofInt 2 * nI k = nI (2 * k) from pk_mul 2 k]
          refine AW.callV (As := [.int (nI (2 * k))]) X (T_isPair_m S tl (2 * k) (by omega)) cb_T_23 rfl rfl T_isPair_im T_isPair_se rfl ⟨Nat.le_of_ble_eq_true rfl, Nat.le_of_ble_eq_true rfl⟩ (Nat.le_of_ble_eq_true rfl) ⟨Nat.le_of_ble_eq_true rfl, Nat.le_of_ble_eq_true rfl⟩ (T_saysProgram_d.d 21 rfl) (fun v h' q => ?_)
          obtain ⟨rfl, rfl⟩ := q
          refine AW.if_ne X (T_saysProgram_d.d 22 rfl) (fun q22 => ?_) (fun q22 => ?_)
          · refine AW.run X T_saysProgram_d 25 1 rfl ?_
            refine AW.goto X (T_saysProgram_d.d 26 rfl) ?_
            rw [nI_o1]
            exact ih (k + 1) (by omega) (by omega) (fun j hj => by
              by_cases e1 : j = k
              · rw [e1]; exact dq_t.mp q22
              · exact h3 j (by omega))
          · refine AW.run X T_saysProgram_d 23 1 rfl ?_
            exact AW.zret X n_0 (T_saysProgram_d.d 24 rfl) (Nat.le_of_ble_eq_true rfl) (Nat.le_of_ble_eq_true rfl) ⟨vd_f (fun z => dq_f.mp q22 (z.2 k hk)), rfl⟩
    rw [nI_add]
    exact L19 (i + o + 1) 0 (by omega) (by omega) (fun j hj => absurd hj (by omega))
  · refine AW.run X T_saysProgram_d 10 1 rfl ?_
    exact AW.zret X n_0 (T_saysProgram_d.d 11 rfl) (Nat.le_of_ble_eq_true rfl) (Nat.le_of_ble_eq_true rfl) ⟨vd_f (fun z => q9 (by rw [hc, z.1, e0])), rfl⟩

def tp_B (f : Nat → Int32) (a k : Nat) : Prop := ∀ j, j < k → (if j = 0 then f 0 else f (a + j - 1)) < f (a + j) ∧ f (a + j) < f 1
set_option maxHeartbeats 4000000 in
set_option maxRecDepth 100000 in
theorem T_areBounds_m {l : Launch} {G : ax_G} (S : x_S) (tl : List va_E) (a m0 : Nat) (ha : a + m0 ≤ 96) :
    AM l VV G T_areBounds_y T_areBounds_c 6 (some .boolean) 0 0 0 [.ref 131, .int (nI a), .int (nI m0)] (x_hC S tl) (fun v h' => v = some (.int (bI (dc (tp_B (S.2.1 1) a m0)))) ∧ h' = x_hC S tl) := by
  refine AM.of (pl := pl_T) (by decide) v_good fl_T_ok kl_T_ok nofun (Nat.le_of_ble_eq_true rfl) ?_
  intro p e s m args below meth c X
  refine AW.run X T_areBounds_d 0 3 rfl ?_
  refine AW.cl1 (j := 0) X rfl (by decide) (T_areBounds_d.d 3 rfl) ?_
  refine AW.run X T_areBounds_d 4 3 rfl ?_
  have L10 : ∀ (t k : Nat), k ≤ m0 → m0 - k < t → tp_B (S.2.1 1) a k → AW p l e (ax_R 0 0 0) s m args below meth c VV G 6 (x_hC S tl) 0 0 (MQ below (ax_Q VV G (fun v h' => v = some (.int (bI (dc (tp_B (S.2.1 1) a m0)))) ∧ h' = x_hC S tl)) args s 0 0 (fun q => G.bs ≤ q)) 10 [(4, .int (nI k)), (3, .int (if k = 0 then (S.2.1 1) 0 else (S.2.1 1) (a + k - 1))), (0, .ref 131), (1, .int (nI a)), (2, .int (nI m0))] [] := by
    intro t
    induction t with
    | zero => intro k h1 h2; exact absurd h2 (by omega)
    | succ t ih =>
      intro k h1 h2 h3
      refine AW.run X T_areBounds_d 7 2 rfl ?_
      refine AW.icmp_ge X (T_areBounds_d.d 9 rfl) (fun q9 => ?_) (fun q9 => ?_)
      · refine AW.run X T_areBounds_d 32 1 rfl ?_
        exact AW.zret X n_1 (T_areBounds_d.d 33 rfl) (Nat.le_of_ble_eq_true rfl) (Nat.le_of_ble_eq_true rfl) ⟨vd_t (fun j hj => h3 j (by have := cge q9; omega)), rfl⟩
      · have hk : k < m0 := clt q9
        refine AW.run X T_areBounds_d 10 5 rfl ?_
        refine AW.cl1 (j := a + k) X (nI_add a k) (by omega) (T_areBounds_d.d 15 rfl) ?_
        refine AW.run X T_areBounds_d 16 3 rfl ?_
        refine AW.icmp_le X (T_areBounds_d.d 19 rfl) (fun q19 => ?_) (fun q19 => ?_)
        · refine AW.run X T_areBounds_d 26 1 rfl ?_
          exact AW.zret X n_0 (T_areBounds_d.d 27 rfl) (Nat.le_of_ble_eq_true rfl) (Nat.le_of_ble_eq_true rfl) ⟨vd_f (fun z => k2_nle (z k hk).1 q19), rfl⟩
        · refine AW.run X T_areBounds_d 20 4 rfl ?_
          refine AW.cl1 (j := 1) X rfl (by decide) (T_areBounds_d.d 24 rfl) ?_
          refine AW.icmp_lt X (T_areBounds_d.d 25 rfl) (fun q25 => ?_) (fun q25 => ?_)
          · refine AW.run X T_areBounds_d 28 3 rfl ?_
            refine AW.goto X (T_areBounds_d.d 31 rfl) ?_
            refine AW.pk [0, 1, 3, 4, 5] rfl ?_
            rw [nI_o1, show S.2.1 1 (a + k) = (if k + 1 = 0 then S.2.1 1 0 else S.2.1 1 (a + (k + 1) - 1)) from by rw [if_neg (by omega)]; rfl]
            exact ih (k + 1) (by omega) (by omega) (fun j hj => by
              by_cases e1 : j = k
              · rw [e1]; exact ⟨k2_lt q19, q25⟩
              · exact h3 j (by omega))
          · refine AW.run X T_areBounds_d 26 1 rfl ?_
            exact AW.zret X n_0 (T_areBounds_d.d 27 rfl) (Nat.le_of_ble_eq_true rfl) (Nat.le_of_ble_eq_true rfl) ⟨vd_f (fun z => q25 (z k hk).2), rfl⟩
  exact L10 (m0 + 1) 0 (by omega) (by omega) (fun j hj => absurd hj (by omega))

/-- a made function's object: its inputs, its outputs -/
def f_O (h : List va_E) (a : Nat) (x y : Int32) : Prop := ∃ (ci : Nat) (fs : List Value) (k1 k2 : Nat), h[a]? = some (.inr (ci, fs)) ∧ ax_al fl_T 38 ci = some k1 ∧ fs[k1]? = some (.int x) ∧ ax_al fl_T 43 ci = some k2 ∧ fs[k2]? = some (.int y) ∧ ax_al fl_N 136 ci = some k2
set_option maxHeartbeats 4000000 in
set_option maxRecDepth 100000 in
theorem T_isPart_m {l : Launch} {G : ax_G} {h : List va_E} (a : Nat) (x y z : Int32) (ho : f_O h a x y) :
    AM l VV G T_isPart_y T_isPart_c 2 (some .boolean) 0 0 0 [.ref a, .int z] (h) (fun v h' => v = some (.int (bI (dc (x = 1 ∧ y = z)))) ∧ h' = h) := by
  refine AM.of (pl := pl_T) (by decide) v_good fl_T_ok kl_T_ok nofun (Nat.le_of_ble_eq_true rfl) ?_
  intro p e s m args below meth c X
  obtain ⟨ci, fs, k1, k2, ha, e1, e2, e3, e4, -⟩ := ho
  refine AW.run X T_isPart_d 0 1 rfl ?_
  refine AW.ifnull X (T_isPart_d.d 1 rfl) ?_
  refine AW.run X T_isPart_d 2 1 rfl ?_
  refine AW.get X ha e1 e2 (T_isPart_d.d 3 rfl) ?_
  refine AW.run X T_isPart_d 4 1 rfl ?_
  refine AW.icmp_ne X (T_isPart_d.d 5 rfl) (fun q5 => ?_) (fun q5 => ?_)
  · refine AW.run X T_isPart_d 12 1 rfl ?_
    exact AW.zret X n_0 (T_isPart_d.d 13 rfl) (Nat.le_of_ble_eq_true rfl) (Nat.le_of_ble_eq_true rfl) ⟨vd_f (fun w => q5 w.1), rfl⟩
  · refine AW.run X T_isPart_d 6 1 rfl ?_
    refine AW.get X ha e3 e4 (T_isPart_d.d 7 rfl) ?_
    refine AW.run X T_isPart_d 8 1 rfl ?_
    refine AW.icmp_ne X (T_isPart_d.d 9 rfl) (fun q9 => ?_) (fun q9 => ?_)
    · refine AW.run X T_isPart_d 12 1 rfl ?_
      exact AW.zret X n_0 (T_isPart_d.d 13 rfl) (Nat.le_of_ble_eq_true rfl) (Nat.le_of_ble_eq_true rfl) ⟨vd_f (fun w => q9 w.2), rfl⟩
    · refine AW.run X T_isPart_d 10 1 rfl ?_
      refine AW.goto X (T_isPart_d.d 11 rfl) ?_
      exact AW.zret X n_1 (T_isPart_d.d 13 rfl) (Nat.le_of_ble_eq_true rfl) (Nat.le_of_ble_eq_true rfl) ⟨vd_t ⟨q5, q9⟩, rfl⟩

/-- the functions: m0 of them, each an object with inputs tk f, outputs gv f -/
def f_F (h : List va_E) (fn : Nat → Option Nat) (tk gv : Nat → Int32) (m0 : Nat) : Prop := ∀ f, f < m0 → ∃ a, fn f = some a ∧ f_O h a (tk f) (gv f)
theorem tp_Z4_B {f tk gv : Nat → Int32} {c m : Nat} {out : Int32} {K : Nat} (hK : 1 ≤ K) : tp_Z4 f tk gv c m out K (K - 1) ↔ tp_Z3 f tk gv c m out K K ∧ tp_B f (3 + K) (K - 1) := by
  unfold tp_Z4 tp_B
  constructor
  · rintro ⟨a, b⟩
    refine ⟨a, fun j hj => ?_⟩
    have := b j hj
    rw [show 3 + K + j - 1 = 2 + K + j by omega]
    exact this
  · rintro ⟨a, b⟩
    refine ⟨a, fun j hj => ?_⟩
    have := b j hj
    rw [show 3 + K + j - 1 = 2 + K + j by omega] at this
    exact this
theorem tp_K0 {f tk gv : Nat → Int32} {c m : Nat} {out : Int32} {K k : Nat} (h : ¬ tp_Z1 f c) : ¬ tp_Z4 f tk gv c m out K k := fun z => h z.1.1
set_option maxHeartbeats 4000000 in
set_option maxRecDepth 100000 in
theorem T_saysStitched_m {l : Launch} {G : ax_G} (S : x_S) (tl : List va_E) (o n m0 : Nat) (tk gv : Nat → Int32) (ho : o ≤ 4) (hc : S.1 2 = nI n) (hn : n ≤ 96) (hm0 : m0 ≤ 24) (hf : f_F (x_hC S tl) (S.2.2.1 0) tk gv m0) :
    AM l VV G T_saysStitched_y T_saysStitched_c 7 (some .boolean) 1 0 0 [.ref 131, .int (nI o), .ref 133, .int (nI m0)] (x_hC S tl) (fun v h' => ∃ K, tp_K (S.2.1 1) n K ∧ v = some (.int (bI (dc (tp_Z4 (S.2.1 1) tk gv n m0 (nI o) K (K - 1))))) ∧ h' = x_hC S tl) := by
  refine AM.of (pl := pl_T) (by decide) v_good fl_T_ok kl_T_ok nofun (Nat.le_of_ble_eq_true rfl) ?_
  intro p e s m args below meth c X
  obtain ⟨K, hK⟩ := tp_K_ex (S.2.1 1) n
  refine AW.run X T_saysStitched_d 0 3 rfl ?_
  refine AW.icmp_lt X (T_saysStitched_d.d 3 rfl) (fun q3 => ?_) (fun q3 => ?_)
  · refine AW.run X T_saysStitched_d 14 1 rfl ?_
    exact AW.zret X n_0 (T_saysStitched_d.d 15 rfl) (Nat.le_of_ble_eq_true rfl) (Nat.le_of_ble_eq_true rfl) ⟨K, hK, vd_f (tp_K0 (fun w => by have := w.1; have z := (nI_ltI (a := n) (b := 3) (by omega) (by decide)).mp (by rw [← hc]; exact q3); omega)), rfl⟩
  · have hn3 : 3 ≤ n := (nI_leI (a := 3) (b := n) (by decide) (by omega)).mp (by rw [← hc]; exact Int32.not_lt.mp q3)
    refine AW.run X T_saysStitched_d 4 2 rfl ?_
    refine AW.callV (As := [.int (nI 0)]) X (T_isPair_m S tl 0 (by decide)) cb_T_23 rfl rfl T_isPair_im T_isPair_se rfl ⟨Nat.le_of_ble_eq_true rfl, Nat.le_of_ble_eq_true rfl⟩ (Nat.le_of_ble_eq_true rfl) ⟨Nat.le_of_ble_eq_true rfl, Nat.le_of_ble_eq_true rfl⟩ (T_saysStitched_d.d 6 rfl) (fun v h' q => ?_)
    obtain ⟨rfl, rfl⟩ := q
    refine AW.if_eq X (T_saysStitched_d.d 7 rfl) (fun q7 => ?_) (fun q7 => ?_)
    · refine AW.run X T_saysStitched_d 14 1 rfl ?_
      exact AW.zret X n_0 (T_saysStitched_d.d 15 rfl) (Nat.le_of_ble_eq_true rfl) (Nat.le_of_ble_eq_true rfl) ⟨K, hK, vd_f (tp_K0 (fun w => dq_f.mp q7 w.2.1)), rfl⟩
    · refine AW.run X T_saysStitched_d 8 4 rfl ?_
      refine AW.callV (As := [.int (nI 2), .int (iZ 1), .int (iZ 8)]) X (T_isOneOf_m S tl 2 1 8 (by decide) ⟨by decide, by decide⟩ ⟨by decide, by decide⟩) cb_T_26 rfl rfl T_isOneOf_im T_isOneOf_se rfl ⟨Nat.le_of_ble_eq_true rfl, Nat.le_of_ble_eq_true rfl⟩ (Nat.le_of_ble_eq_true rfl) ⟨Nat.le_of_ble_eq_true rfl, Nat.le_of_ble_eq_true rfl⟩ (T_saysStitched_d.d 12 rfl) (fun v h' q => ?_)
      obtain ⟨rfl, rfl⟩ := q
      refine AW.if_ne X (T_saysStitched_d.d 13 rfl) (fun q13 => ?_) (fun q13 => ?_)
      · have hZ1 : tp_Z1 (S.2.1 1) n := ⟨hn3, dq_t.mp q7, dq_t.mp q13⟩
        obtain ⟨hK1, hK2, hK3⟩ := hK.1 hZ1
        refine AW.run X T_saysStitched_d 16 3 rfl ?_
        refine AW.cl1 (j := 2) X rfl (by decide) (T_saysStitched_d.d 19 rfl) ?_
        refine AW.run X T_saysStitched_d 20 14 rfl ?_
        rw [hK1]
        have e0 : Int32.ofInt 3 + nI K + (nI K - Int32.ofInt 1) + Int32.ofInt 2 * nI K = nI (4 * K + 2) := by
          rw [show Int32.ofInt 2 * nI K = nI (2 * K) from pk_mul 2 K, show nI K - Int32.ofInt 1 = nI (K - 1) from pk_sub (b := 1) hK2, show Int32.ofInt 3 + nI K = nI (3 + K) from nI_add 3 K, nI_add, nI_add]
          congr 1
          omega
        refine AW.icmp_eq X (T_saysStitched_d.d 34 rfl) (fun q34 => ?_) (fun q34 => ?_)
        · have hn9 : n = 4 * K + 2 := ceq q34 hc e0 (by omega) (by omega)
          refine AW.run X T_saysStitched_d 37 2 rfl ?_
          have L63 : ∀ (t k : Nat), k ≤ K → K - k < t → (∀ j, j < k → tp_f tk gv m0 (nI o) ((S.2.1 1) (3 + j))) → AW p l e (ax_R 1 0 0) s m args below meth c VV G 7 (x_hC S tl) 0 0 (MQ below (ax_Q VV G (fun v h' => ∃ K, tp_K (S.2.1 1) n K ∧ v = some (.int (bI (dc (tp_Z4 (S.2.1 1) tk gv n m0 (nI o) K (K - 1))))) ∧ h' = x_hC S tl)) args s 0 0 (fun q => G.bs ≤ q)) 63 [(5, .int (nI k)), (4, .int (nI K)), (0, .ref 131), (1, .int (nI o)), (2, .ref 133), (3, .int (nI m0))] [] := by
            intro t
            induction t with
            | zero => intro k h1 h2; exact absurd h2 (by omega)
            | succ t ih =>
              intro k h1 h2 h3
              refine AW.run X T_saysStitched_d 39 2 rfl ?_
              refine AW.icmp_ge X (T_saysStitched_d.d 41 rfl) (fun q41 => ?_) (fun q41 => ?_)
              · have g3 : tp_Z3 (S.2.1 1) tk gv n m0 (nI o) K K := ⟨hZ1, hn9, fun j hj => h3 j (by have := cge q41; omega)⟩
                refine AW.run X T_saysStitched_d 64 7 rfl ?_
                rw [show Int32.ofInt 3 + nI K = nI (3 + K) from nI_add 3 K, show nI K - Int32.ofInt 1 = nI (K - 1) from pk_sub (b := 1) hK2]
                refine AW.callV (As := [.int (nI (3 + K)), .int (nI (K - 1))]) X (T_areBounds_m S tl (3 + K) (K - 1) (by omega)) cb_T_34 rfl rfl T_areBounds_im T_areBounds_se rfl ⟨Nat.le_of_ble_eq_true rfl, Nat.le_of_ble_eq_true rfl⟩ (Nat.le_of_ble_eq_true rfl) ⟨Nat.le_of_ble_eq_true rfl, Nat.le_of_ble_eq_true rfl⟩ (T_saysStitched_d.d 71 rfl) (fun v h' q => ?_)
                obtain ⟨rfl, rfl⟩ := q
                exact AW.zret X (bI_nar _) (T_saysStitched_d.d 72 rfl) (Nat.le_of_ble_eq_true rfl) (Nat.le_of_ble_eq_true rfl) ⟨K, hK, by rw [dc_iff (tp_Z4_B hK2), dc_iff (P := tp_B (S.2.1 1) (3 + K) (K - 1)) ⟨fun z => And.intro g3 z, fun z => z.2⟩], rfl⟩
              · have hk : k < K := clt q41
                refine AW.run X T_saysStitched_d 42 5 rfl ?_
                refine AW.cl1 (j := 3 + k) X (nI_add 3 k) (by omega) (T_saysStitched_d.d 47 rfl) ?_
                refine AW.run X T_saysStitched_d 48 2 rfl ?_
                refine AW.if_lt X (T_saysStitched_d.d 50 rfl) (fun q50 => ?_) (fun q50 => ?_)
                · refine AW.run X T_saysStitched_d 60 1 rfl ?_
                  exact AW.zret X n_0 (T_saysStitched_d.d 61 rfl) (Nat.le_of_ble_eq_true rfl) (Nat.le_of_ble_eq_true rfl) ⟨K, hK, vd_f (fun w => by have := (w.1.2.2 k hk).1.1; have z := Int32.lt_iff_toInt_lt.mp q50; have z3 : (0 : Int32).toInt = 0 := rfl; omega), rfl⟩
                · refine AW.run X T_saysStitched_d 51 2 rfl ?_
                  refine AW.icmp_ge X (T_saysStitched_d.d 53 rfl) (fun q53 => ?_) (fun q53 => ?_)
                  · refine AW.run X T_saysStitched_d 60 1 rfl ?_
                    exact AW.zret X n_0 (T_saysStitched_d.d 61 rfl) (Nat.le_of_ble_eq_true rfl) (Nat.le_of_ble_eq_true rfl) ⟨K, hK, vd_f (fun w => by have := (w.1.2.2 k hk).1.2; have z := Int32.le_iff_toInt_le.mp q53; rw [iZ_n, iZ_t ⟨by omega, by omega⟩] at z; omega), rfl⟩
                  · obtain ⟨jx, hj1, hj2⟩ : ∃ jx, jx < m0 ∧ S.2.1 1 (3 + k) = nI jx := by
                      have z1 := Int32.le_iff_toInt_le.mp (Int32.not_lt.mp q50)
                      have z3 : (0 : Int32).toInt = 0 := rfl
                      have z4 : S.2.1 1 (3 + k) = nI (S.2.1 1 (3 + k)).toInt.toNat := i_nat (by omega)
                      refine ⟨(S.2.1 1 (3 + k)).toInt.toNat, ?_, z4⟩
                      have z2 := k2_lt q53
                      rw [z4] at z2
                      exact (nI_ltI (by have := (zI_i (S.2.1 1 (3 + k))).2; omega) (by omega)).mp z2
                    obtain ⟨a, ha1, ha2⟩ := hf jx hj1
                    refine AW.run X T_saysStitched_d 54 2 rfl ?_
                    refine AW.crl0 (j := jx) X hj2 (by omega) (T_saysStitched_d.d 56 rfl) ?_
                    rw [ha1, show va_rf (some a) = .ref a from rfl]
                    refine AW.run X T_saysStitched_d 57 1 rfl ?_
                    refine AW.callS (As := [.ref a, .int (nI o)]) X (T_isPart_m a (tk jx) (gv jx) (nI o) ha2) cb_T_30 T_isPart_st rfl ⟨Nat.le_of_ble_eq_true rfl, Nat.le_of_ble_eq_true rfl⟩ (Nat.le_of_ble_eq_true rfl) ⟨Nat.le_of_ble_eq_true rfl, Nat.le_of_ble_eq_true rfl⟩ (T_saysStitched_d.d 58 rfl) (fun v h' q => ?_)
                    obtain ⟨rfl, rfl⟩ := q
                    refine AW.if_ne X (T_saysStitched_d.d 59 rfl) (fun q59 => ?_) (fun q59 => ?_)
                    · refine AW.run X T_saysStitched_d 62 1 rfl ?_
                      refine AW.goto X (T_saysStitched_d.d 63 rfl) ?_
                      refine AW.pk [0, 2, 3, 4, 5, 6] rfl ?_
                      rw [nI_o1]
                      exact ih (k + 1) (by omega) (by omega) (fun j hj => by
                        by_cases e1 : j = k
                        · have w := dq_t.mp q59
                          rw [e1, hj2]
                          refine ⟨?_, ?_⟩
                          · unfold tp_i
                            rw [iZ_n, iZ_t ⟨by omega, by omega⟩]
                            exact ⟨by omega, by omega⟩
                          · rw [nI_clamp (by omega)]; exact w
                        · exact h3 j (by omega))
                    · refine AW.run X T_saysStitched_d 60 1 rfl ?_
                      exact AW.zret X n_0 (T_saysStitched_d.d 61 rfl) (Nat.le_of_ble_eq_true rfl) (Nat.le_of_ble_eq_true rfl) ⟨K, hK, vd_f (fun w => dq_f.mp q59 (by have z := (w.1.2.2 k hk).2; rw [hj2, nI_clamp (by omega)] at z; exact z)), rfl⟩
          exact L63 (K + 1) 0 (by omega) (by omega) (fun j hj => absurd hj (by omega))
        · refine AW.run X T_saysStitched_d 35 1 rfl ?_
          exact AW.zret X n_0 (T_saysStitched_d.d 36 rfl) (Nat.le_of_ble_eq_true rfl) (Nat.le_of_ble_eq_true rfl) ⟨K, hK, vd_f (fun w => q34 (by rw [hc, w.1.2.1, e0])), rfl⟩
      · refine AW.run X T_saysStitched_d 14 1 rfl ?_
        exact AW.zret X n_0 (T_saysStitched_d.d 15 rfl) (Nat.le_of_ble_eq_true rfl) (Nat.le_of_ble_eq_true rfl) ⟨K, hK, vd_f (tp_K0 (fun w => dq_f.mp q13 w.2.2)), rfl⟩
end
section
theorem sh_u (x s : Int32) (k : Nat) (hs : ((s.toUInt32 &&& Int32.toUInt32 31).toBitVec % 32).toNat = k) : (x.toUInt32 >>> (s.toUInt32 &&& Int32.toUInt32 31)).toInt32.toBitVec = x.toBitVec >>> k := by
  show (x.toUInt32 >>> (s.toUInt32 &&& Int32.toUInt32 31)).toBitVec = _
  rw [UInt32.toBitVec_shiftRight]
  show x.toBitVec >>> ((s.toUInt32 &&& Int32.toUInt32 31).toBitVec % 32) = _
  rw [BitVec.ushiftRight_eq', hs]
theorem sh_s (x s : Int32) (k : Nat) (hs : (s.toBitVec.smod 32).toNat = k) : (x >>> s).toBitVec = x.toBitVec.sshiftRight k := by
  rw [Int32.toBitVec_shiftRight]
  show x.toBitVec.sshiftRight' (s.toBitVec.smod 32) = _
  rw [BitVec.sshiftRight_eq', hs]
theorem sh_8 {x y : Int32} (h : ∀ i, i < 8 → x.toBitVec.getLsbD i = y.toBitVec.getLsbD i) : x.toInt8 = y.toInt8 := by
  apply Int8.toBitVec_inj.mp
  apply BitVec.eq_of_getLsbD_eq
  intro i hi
  show (x.toBitVec.signExtend 8).getLsbD i = (y.toBitVec.signExtend 8).getLsbD i
  rw [BitVec.getLsbD_signExtend, BitVec.getLsbD_signExtend]
  simp only [hi, decide_true, Bool.true_and]
  rw [if_pos (by omega), if_pos (by omega)]
  exact h i hi
theorem fb_u (w : Int32) {k : Nat} (hk : k < 4) : (w.toUInt32 >>> ((iZ (24 - 8 * (k : Int))).toUInt32 &&& Int32.toUInt32 31)).toInt32.toInt8.toInt32 = f_b w k := by
  unfold f_b
  congr 1
  apply sh_8
  intro i hi
  have h1 : k = 0 ∨ k = 1 ∨ k = 2 ∨ k = 3 := by omega
  rcases h1 with rfl | rfl | rfl | rfl
  · rw [sh_u w _ 24 (by decide), sh_s w _ 24 (by decide), BitVec.getLsbD_ushiftRight, BitVec.getLsbD_sshiftRight]; rw [if_pos (by omega), decide_eq_false (by omega), Bool.not_false, Bool.true_and]
  · rw [sh_u w _ 16 (by decide), sh_s w _ 16 (by decide), BitVec.getLsbD_ushiftRight, BitVec.getLsbD_sshiftRight]; rw [if_pos (by omega), decide_eq_false (by omega), Bool.not_false, Bool.true_and]
  · rw [sh_u w _ 8 (by decide), sh_s w _ 8 (by decide), BitVec.getLsbD_ushiftRight, BitVec.getLsbD_sshiftRight]; rw [if_pos (by omega), decide_eq_false (by omega), Bool.not_false, Bool.true_and]
  · rw [sh_u w _ 0 (by decide), sh_s w _ 0 (by decide), BitVec.getLsbD_ushiftRight, BitVec.getLsbD_sshiftRight]; rw [if_pos (by omega), decide_eq_false (by omega), Bool.not_false, Bool.true_and]
theorem x_i0 (S : x_S) (k : Nat) : x_i S k (S.1 k) = S := by
  unfold x_i
  rw [show upd S.1 k (S.1 k) = S.1 from funext fun j => by unfold upd; by_cases h : j = k <;> simp [h]]
theorem x_R0 (S : x_S) (k : Nat) : x_R S k (S.2.2.1 k) = S := by
  unfold x_R
  rw [va_up_id]
theorem x_rR (S : x_S) (k j : Nat) (f : Nat → Option Nat) (x : Option Nat) : x_r (x_R S k f) k j x = x_R S k (va_up f j x) := by
  simp only [x_r, x_R, va_up_self, bx_uu]
theorem x_iAi (S : x_S) (i k : Nat) (x y : Int32) (f : Nat → Int32) : x_i (x_A (x_i S i x) k f) i y = x_A (x_i S i y) k f := by
  unfold x_i x_A
  rw [upd_upd]
theorem x_Ag (S : x_S) (k : Nat) (f : Nat → Int32) : (x_A S k f).2.1 k = f := va_up_self _ _ _
theorem x_fd (S : x_S) (x1 x2 x3 x4 x5 : Int32) (f1 f2 f3 f4 f5 : Nat → Int32) : x_A (x_i (x_A (x_i (x_A (x_i (x_A (x_i (x_A (x_i S 0 x1) 0 f1) 0 x2) 0 f2) 0 x3) 0 f3) 0 x4) 0 f4) 0 x5) 0 f5 = x_A (x_i S 0 x5) 0 f5 := by
  unfold x_i x_A
  simp only [upd_upd, bx_uu]
theorem upd_s (f : Nat → Int32) (k : Nat) (x : Int32) : upd f k x k = x := by simp [upd]
theorem upd_n {f : Nat → Int32} {k j : Nat} {x : Int32} (h : j ≠ k) : upd f k x j = f j := by simp [upd, h]
theorem lk2 (w : Int32) : (w = 0 ∧ Op.lookupswitch.offset [(0, 27), (1, 35)] 43 w.toInt = 27) ∨ (w = 1 ∧ Op.lookupswitch.offset [(0, 27), (1, 35)] 43 w.toInt = 35) ∨ (¬ w = 0 ∧ ¬ w = 1 ∧ Op.lookupswitch.offset [(0, 27), (1, 35)] 43 w.toInt = 43) := by
  by_cases h0 : w = 0
  · subst h0; exact Or.inl ⟨rfl, by decide⟩
  by_cases h1 : w = 1
  · subst h1; exact Or.inr (Or.inl ⟨rfl, by decide⟩)
  refine Or.inr (Or.inr ⟨h0, h1, ?_⟩)
  have e0 : ¬ w.toInt = 0 := fun z => h0 (Int32.toInt_inj.mp z)
  have e1 : ¬ w.toInt = 1 := fun z => h1 (Int32.toInt_inj.mp z)
  simp [Op.lookupswitch.offset, Ne.symm e0, Ne.symm e1, e0, e1]
theorem tk5 (x : Int32) : (x.toInt < 0 ∨ 4 < x.toInt) ∨ x = 0 ∨ x = 1 ∨ x = 2 ∨ x = 3 ∨ x = 4 := by
  have h : (x.toInt < 0 ∨ 4 < x.toInt) ∨ x.toInt = 0 ∨ x.toInt = 1 ∨ x.toInt = 2 ∨ x.toInt = 3 ∨ x.toInt = 4 := by omega
  have e : ∀ {a : Int32}, x.toInt = a.toInt → x = a := fun h => Int32.toInt_inj.mp h
  rcases h with h | h | h | h | h | h
  · exact Or.inl h
  · exact Or.inr (Or.inl (e (a := 0) h))
  · exact Or.inr (Or.inr (Or.inl (e (a := 1) h)))
  · exact Or.inr (Or.inr (Or.inr (Or.inl (e (a := 2) h))))
  · exact Or.inr (Or.inr (Or.inr (Or.inr (Or.inl (e (a := 3) h)))))
  · exact Or.inr (Or.inr (Or.inr (Or.inr (Or.inr (e (a := 4) h)))))
theorem mx_sub {n k : Nat} (hn : n ≤ 8192) (hk : k < 2 ^ 31) : (if nI n - nI k < 0 then 0 else nI n - nI k) = nI (n - k) := by
  rw [iZ_n n, iZ_n k, iZ_sub, show (0 : Int32) = iZ 0 from rfl]
  by_cases h : (n : Int) - k < 0
  · rw [if_pos ((iZ_lt ⟨by omega, by omega⟩ ⟨by decide, by decide⟩).mpr h), iZ_n, show n - k = 0 by omega]
    rfl
  · rw [if_neg (fun z => h ((iZ_lt ⟨by omega, by omega⟩ ⟨by decide, by decide⟩).mp z)), iZ_n]
    congr 1
    omega
theorem zN_lo : (-1073741824 : Int32) = iZ (-1073741824) := by decide
theorem zN_hi : (1073741824 : Int32) = iZ 1073741824 := by decide

set_option maxHeartbeats 4000000 in
set_option maxRecDepth 100000 in
theorem N_appendBytes_m {l : Launch} {G : ax_G} (S : x_S) (tl : List va_E) (w : Int32) (n : Nat) (hn : S.1 0 = nI n) (hle : n + 4 ≤ 8192) :
    AM l VV G N_appendBytes_y N_appendBytes_c 3 none 0 0 0 [.ref 129, .int w] (x_hC S tl) (fun v h' => v = none ∧ ∃ f, h' = x_hC (x_A (x_i S 0 (nI (n + 4))) 0 f) tl ∧ (∀ j, ¬ (n ≤ j ∧ j < n + 4) → f j = S.2.1 0 j) ∧ ∀ i, i < 4 → f (n + i) = f_b w i) := by
  refine AM.of (pl := pl_N) (by decide) v_good fl_N_ok kl_N_ok nofun (Nat.le_of_ble_eq_true rfl) ?_
  intro p e s m args below meth c X
  refine AW.run X N_appendBytes_d 0 2 rfl ?_
  have L3 : ∀ (t k : Nat) (f : Nat → Int32), k ≤ 4 → 4 - k < t → (∀ j, ¬ (n ≤ j ∧ j < n + k) → f j = S.2.1 0 j) → (∀ i, i < k → f (n + i) = f_b w i) → AW p l e (ax_R 0 0 0) s m args below meth c VV G 3 (x_hC (x_A (x_i S 0 (nI (n + k))) 0 f) tl) 0 0 (MQ below (ax_Q VV G (fun v h' => v = none ∧ ∃ f, h' = x_hC (x_A (x_i S 0 (nI (n + 4))) 0 f) tl ∧ (∀ j, ¬ (n ≤ j ∧ j < n + 4) → f j = S.2.1 0 j) ∧ ∀ i, i < 4 → f (n + i) = f_b w i)) args s 0 0 (fun q => G.bs ≤ q)) 3 [(2, .int (iZ (24 - 8 * (k : Int)))), (0, .ref 129), (1, .int w)] [] := by
    intro t
    induction t with
    | zero => intro k f h1 h2; exact absurd h2 (by omega)
    | succ t ih =>
      intro k f h1 h2 h3 h4
      refine AW.run X N_appendBytes_d 2 1 rfl ?_
      refine AW.if_lt X (N_appendBytes_d.d 3 rfl) (fun q3 => ?_) (fun q3 => ?_)
      · exact AW.vret X (N_appendBytes_d.d 25 rfl) (Nat.le_of_ble_eq_true rfl) (Nat.le_of_ble_eq_true rfl) ⟨rfl, f, by rw [show k = 4 by have := (iZ_lt (a := 24 - 8 * (k : Int)) (b := 0) ⟨by omega, by omega⟩ ⟨by decide, by decide⟩).mp q3; omega], fun j hj => h3 j (by omega), fun i hi => h4 i (by have := (iZ_lt (a := 24 - 8 * (k : Int)) (b := 0) ⟨by omega, by omega⟩ ⟨by decide, by decide⟩).mp q3; omega)⟩
      · have hk : k < 4 := by
          have := mt (fun z : 24 - 8 * (k : Int) < 0 => (iZ_lt ⟨by omega, by omega⟩ ⟨by decide, by decide⟩).mpr z) q3
          omega
        refine AW.run X N_appendBytes_d 4 3 rfl ?_
        refine AW.icmp_ge X (N_appendBytes_d.d 7 rfl) (fun q7 => absurd (cge (a := n + k) (b := 8192) q7) (by omega)) (fun q7 => ?_)
        refine AW.run X N_appendBytes_d 8 8 rfl ?_
        refine AW.cs0 (j := n + k) X rfl (show n + k < 8192 by omega) (N_appendBytes_d.d 16 rfl) ?_
        refine AW.run X N_appendBytes_d 17 5 rfl ?_
        refine AW.cp0 X (N_appendBytes_d.d 22 rfl) ?_
        refine AW.run X N_appendBytes_d 23 1 rfl ?_
        refine AW.goto X (N_appendBytes_d.d 24 rfl) ?_
        exact AW.eq (h' := x_hC (x_A (x_i S 0 (nI (n + (k + 1)))) 0 (upd f (n + k) (f_b w k))) tl) (by
          rw [x_aA, fb_u w hk, show vp_nar .byte (f_b w k) = f_b w k from f_nar _]
          exact congrArg (fun z => x_hC z tl) (by rw [← Nat.add_assoc, ← nI_o1 (n + k)]; exact x_iAi S 0 0 _ _ _)) (by
          rw [show iZ (24 - 8 * (k : Int)) + Int32.ofInt (-8) = iZ (24 - 8 * ((k + 1 : Nat) : Int)) from by rw [show Int32.ofInt (-8) = iZ (-8) from rfl, iZ_add]; congr 1; omega]
          exact ih (k + 1) _ (by omega) (by omega) (fun j hj => by rw [upd_n (by omega)]; exact h3 j (by omega)) (fun i hi => by
            by_cases e1 : i = k
            · rw [e1, upd_s]
            · rw [upd_n (by omega)]; exact h4 i (by omega)))
  rw [show S = x_A (x_i S 0 (nI (n + 0))) 0 (S.2.1 0) from by
    rw [x_A0 (x_i S 0 (nI (n + 0))) 0 |> (show x_A (x_i S 0 (nI (n + 0))) 0 (S.2.1 0) = x_i S 0 (nI (n + 0)) from ·), Nat.add_zero, ← hn]
    exact (x_i0 S 0).symm]
  exact L3 5 0 (S.2.1 0) (by omega) (by omega) (fun j _ => rfl) (fun i hi => absurd hi (by omega))

set_option maxHeartbeats 4000000 in
set_option maxRecDepth 100000 in
theorem N_feed_m {l : Launch} {G : ax_G} (S : x_S) (tl : List va_E) (a b c0 d e0 : Int32) (n : Nat) (hn : S.1 0 = nI n) (hle : n ≤ 8192) :
    AM l VV G N_feed_y N_feed_c 6 (some .int) 1 0 0 [.ref 129, .int a, .int b, .int c0, .int d, .int e0] (x_hC S tl) (fun v h' => if 8192 < n + 20 then v = some (.int (-1)) ∧ h' = x_hC S tl else ∃ f, v = some (.int (nI (n + 20))) ∧ h' = x_hC (x_A (x_i S 0 (nI (n + 20))) 0 f) tl ∧ (∀ j, ¬ (n ≤ j ∧ j < n + 20) → f j = S.2.1 0 j) ∧ ∀ i, i < 20 → f (n + i) = f_b (f_w a b c0 d e0 i) (i % 4)) := by
  refine AM.of (pl := pl_N) (by decide) v_good fl_N_ok kl_N_ok nofun (Nat.le_of_ble_eq_true rfl) ?_
  intro p e s m args below meth c X
  refine AW.run X N_feed_d 0 5 rfl ?_
  refine AW.icmp_le X (N_feed_d.d 5 rfl) (fun q5 => ?_) (fun q5 => ?_)
  · have hlt : n + 20 ≤ 8192 := (nI_leI (by omega) (by decide)).mp (by rw [← nI_add, ← hn]; exact q5)
    refine AW.run X N_feed_d 8 2 rfl ?_
    refine AW.callV (As := [.int a]) X (N_appendBytes_m S tl a n hn (by omega)) cb_N_64 rfl rfl N_appendBytes_im N_appendBytes_se rfl ⟨Nat.le_of_ble_eq_true rfl, Nat.le_of_ble_eq_true rfl⟩ (Nat.le_of_ble_eq_true rfl) ⟨Nat.le_of_ble_eq_true rfl, Nat.le_of_ble_eq_true rfl⟩ (N_feed_d.d 10 rfl) (fun v h' q => ?_)
    obtain ⟨rfl, f1, rfl, u1, w1⟩ := q
    refine AW.run X N_feed_d 11 2 rfl ?_
    refine AW.callV (As := [.int b]) X (N_appendBytes_m (x_A (x_i S 0 (nI (n + 4))) 0 f1) tl b (n + 4) rfl (by omega)) cb_N_64 rfl rfl N_appendBytes_im N_appendBytes_se rfl ⟨Nat.le_of_ble_eq_true rfl, Nat.le_of_ble_eq_true rfl⟩ (Nat.le_of_ble_eq_true rfl) ⟨Nat.le_of_ble_eq_true rfl, Nat.le_of_ble_eq_true rfl⟩ (N_feed_d.d 13 rfl) (fun v h' q => ?_)
    obtain ⟨rfl, f2, rfl, u2, w2⟩ := q
    refine AW.run X N_feed_d 14 2 rfl ?_
    refine AW.callV (As := [.int c0]) X (N_appendBytes_m (x_A (x_i (x_A (x_i S 0 (nI (n + 4))) 0 f1) 0 (nI (n + 4 + 4))) 0 f2) tl c0 (n + 8) rfl (by omega)) cb_N_64 rfl rfl N_appendBytes_im N_appendBytes_se rfl ⟨Nat.le_of_ble_eq_true rfl, Nat.le_of_ble_eq_true rfl⟩ (Nat.le_of_ble_eq_true rfl) ⟨Nat.le_of_ble_eq_true rfl, Nat.le_of_ble_eq_true rfl⟩ (N_feed_d.d 16 rfl) (fun v h' q => ?_)
    obtain ⟨rfl, f3, rfl, u3, w3⟩ := q
    refine AW.run X N_feed_d 17 2 rfl ?_
    refine AW.callV (As := [.int d]) X (N_appendBytes_m (x_A (x_i (x_A (x_i (x_A (x_i S 0 (nI (n + 4))) 0 f1) 0 (nI (n + 4 + 4))) 0 f2) 0 (nI (n + 8 + 4))) 0 f3) tl d (n + 12) rfl (by omega)) cb_N_64 rfl rfl N_appendBytes_im N_appendBytes_se rfl ⟨Nat.le_of_ble_eq_true rfl, Nat.le_of_ble_eq_true rfl⟩ (Nat.le_of_ble_eq_true rfl) ⟨Nat.le_of_ble_eq_true rfl, Nat.le_of_ble_eq_true rfl⟩ (N_feed_d.d 19 rfl) (fun v h' q => ?_)
    obtain ⟨rfl, f4, rfl, u4, w4⟩ := q
    refine AW.run X N_feed_d 20 2 rfl ?_
    refine AW.callV (As := [.int e0]) X (N_appendBytes_m (x_A (x_i (x_A (x_i (x_A (x_i (x_A (x_i S 0 (nI (n + 4))) 0 f1) 0 (nI (n + 4 + 4))) 0 f2) 0 (nI (n + 8 + 4))) 0 f3) 0 (nI (n + 12 + 4))) 0 f4) tl e0 (n + 16) rfl (by omega)) cb_N_64 rfl rfl N_appendBytes_im N_appendBytes_se rfl ⟨Nat.le_of_ble_eq_true rfl, Nat.le_of_ble_eq_true rfl⟩ (Nat.le_of_ble_eq_true rfl) ⟨Nat.le_of_ble_eq_true rfl, Nat.le_of_ble_eq_true rfl⟩ (N_feed_d.d 22 rfl) (fun v h' q => ?_)
    obtain ⟨rfl, f5, rfl, u5, w5⟩ := q
    refine AW.run X N_feed_d 23 2 rfl ?_
    exact AW.iret X (N_feed_d.d 25 rfl) (Nat.le_of_ble_eq_true rfl) (Nat.le_of_ble_eq_true rfl) (by
      rw [if_neg (by omega)]
      refine ⟨f5, rfl, ?_, fun j hj => ?_, fun i hi => ?_⟩
      · exact congrArg (fun z => x_hC z tl) (x_fd S _ _ _ _ _ _ _ _ _ _)
      · rw [u5 j (by omega), x_Ag, u4 j (by omega), x_Ag, u3 j (by omega), x_Ag, u2 j (by omega), x_Ag, u1 j (by omega)]
      · simp only [x_Ag] at u5 u4 u3 u2 u1
        have hc : i < 4 ∨ (4 ≤ i ∧ i < 8) ∨ (8 ≤ i ∧ i < 12) ∨ (12 ≤ i ∧ i < 16) ∨ (16 ≤ i ∧ i < 20) := by omega
        unfold f_w
        rcases hc with z | z | z | z | z
        · rw [if_pos z, u5 _ (by omega), u4 _ (by omega), u3 _ (by omega), u2 _ (by omega), w1 i (by omega), show i % 4 = i by omega]
        · rw [if_neg (by omega), if_pos z.2, u5 _ (by omega), u4 _ (by omega), u3 _ (by omega), show n + i = n + 4 + (i - 4) by omega, w2 (i - 4) (by omega), show i % 4 = i - 4 by omega]
        · rw [if_neg (by omega), if_neg (by omega), if_pos z.2, u5 _ (by omega), u4 _ (by omega), show n + i = n + 8 + (i - 8) by omega, w3 (i - 8) (by omega), show i % 4 = i - 8 by omega]
        · rw [if_neg (by omega), if_neg (by omega), if_neg (by omega), if_pos z.2, u5 _ (by omega), show n + i = n + 12 + (i - 12) by omega, w4 (i - 12) (by omega), show i % 4 = i - 12 by omega]
        · rw [if_neg (by omega), if_neg (by omega), if_neg (by omega), if_neg (by omega), show n + i = n + 16 + (i - 16) by omega, w5 (i - 16) (by omega), show i % 4 = i - 16 by omega])
  · refine AW.run X N_feed_d 6 1 rfl ?_
    exact AW.iret X (N_feed_d.d 7 rfl) (Nat.le_of_ble_eq_true rfl) (Nat.le_of_ble_eq_true rfl) (by rw [if_pos (by have := mt (nI_leI (a := n + 20) (b := 8192) (by omega) (by decide)).mpr (fun z => q5 (by show S.1 0 + nI 20 ≤ nI 8192; rw [hn, nI_add]; exact z)); omega)]; exact ⟨rfl, rfl⟩)

set_option maxHeartbeats 4000000 in
set_option maxRecDepth 100000 in
theorem N_drop_m {l : Launch} {G : ax_G} (S : x_S) (tl : List va_E)  :
    AM l VV G N_drop_y N_drop_c 2 (some .int) 0 0 0 [.ref 129] (x_hC S tl) (fun v h' => v = some (.int (S.1 2)) ∧ h' = x_hC (x_i S 2 0) tl) := by
  refine AM.of (pl := pl_N) (by decide) v_good fl_N_ok kl_N_ok nofun (Nat.le_of_ble_eq_true rfl) ?_
  intro p e s m args below meth c X
  refine AW.run X N_drop_d 0 7 rfl ?_
  refine AW.cp2 X (N_drop_d.d 7 rfl) ?_
  refine AW.run X N_drop_d 8 1 rfl ?_
  exact AW.iret X (N_drop_d.d 9 rfl) (Nat.le_of_ble_eq_true rfl) (Nat.le_of_ble_eq_true rfl) ⟨rfl, rfl⟩

set_option maxHeartbeats 4000000 in
set_option maxRecDepth 100000 in
theorem N_clear_m {l : Launch} {G : ax_G} (S : x_S) (tl : List va_E)  :
    AM l VV G N_clear_y N_clear_c 3 (some .int) 0 0 0 [.ref 129] (x_hC S tl) (fun v h' => v = some (.int (S.1 1)) ∧ ∃ f, h' = x_hC (x_i (x_R S 0 f) 1 0) tl) := by
  refine AM.of (pl := pl_N) (by decide) v_good fl_N_ok kl_N_ok nofun (Nat.le_of_ble_eq_true rfl) ?_
  intro p e s m args below meth c X
  refine AW.run X N_clear_d 0 5 rfl ?_
  have L7 : ∀ (t k : Nat) (f : Nat → Option Nat), k ≤ 24 → 24 - k < t → AW p l e (ax_R 0 0 0) s m args below meth c VV G 3 (x_hC (x_R S 0 f) tl) 0 0 (MQ below (ax_Q VV G (fun v h' => v = some (.int (S.1 1)) ∧ ∃ f, h' = x_hC (x_i (x_R S 0 f) 1 0) tl)) args s 0 0 (fun q => G.bs ≤ q)) 7 [(2, .int (nI k)), (1, .int (S.1 1)), (0, .ref 129)] [] := by
    intro t
    induction t with
    | zero => intro k f h1 h2; exact absurd h2 (by omega)
    | succ t ih =>
      intro k f h1 h2
      refine AW.run X N_clear_d 5 2 rfl ?_
      refine AW.icmp_ge X (N_clear_d.d 7 rfl) (fun q7 => ?_) (fun q7 => ?_)
      · refine AW.run X N_clear_d 15 2 rfl ?_
        refine AW.cp1 X (N_clear_d.d 17 rfl) ?_
        refine AW.run X N_clear_d 18 1 rfl ?_
        exact AW.iret X (N_clear_d.d 19 rfl) (Nat.le_of_ble_eq_true rfl) (Nat.le_of_ble_eq_true rfl) ⟨rfl, f, rfl⟩
      · refine AW.run X N_clear_d 8 4 rfl ?_
        refine AW.crn0 (j := k) X rfl (show k < 24 from clt (b := 24) q7) (N_clear_d.d 12 rfl) ?_
        refine AW.run X N_clear_d 13 1 rfl ?_
        refine AW.goto X (N_clear_d.d 14 rfl) ?_
        rw [nI_o1, x_rR]
        exact ih (k + 1) _ (by have := clt (b := 24) q7; omega) (by have := clt (b := 24) q7; omega)
  rw [← x_R0 S 0]
  exact L7 25 0 (S.2.2.1 0) (by omega) (by omega)

set_option maxHeartbeats 4000000 in
set_option maxRecDepth 100000 in
theorem N_fault_m {l : Launch} {G : ax_G} (S : x_S) (tl : List va_E) (w : Int32) :
    AM l VV G N_fault_y N_fault_c 2 (some .int) 0 0 0 [.ref 129, .int w] (x_hC S tl) (fun v h' => v = some (.int (if w = 0 then S.1 3 else if w = 1 then S.1 4 else -1)) ∧ h' = x_hC S tl) := by
  refine AM.of (pl := pl_N) (by decide) v_good fl_N_ok kl_N_ok nofun (Nat.le_of_ble_eq_true rfl) ?_
  intro p e s m args below meth c X
  refine AW.run X N_fault_d 0 1 rfl ?_
  rcases lk2 w with ⟨z, y⟩ | ⟨z, y⟩ | ⟨z, z2, y⟩
  · refine AW.lookup X (N_fault_d.d 1 rfl) (by decide) y ?_
    refine AW.run X N_fault_d 2 3 rfl ?_
    exact AW.iret X (N_fault_d.d 5 rfl) (Nat.le_of_ble_eq_true rfl) (Nat.le_of_ble_eq_true rfl) ⟨by rw [if_pos z], rfl⟩
  · refine AW.lookup X (N_fault_d.d 1 rfl) (by decide) y ?_
    refine AW.run X N_fault_d 6 3 rfl ?_
    exact AW.iret X (N_fault_d.d 9 rfl) (Nat.le_of_ble_eq_true rfl) (Nat.le_of_ble_eq_true rfl) ⟨by rw [if_neg (by rw [z]; decide), if_pos z], rfl⟩
  · refine AW.lookup X (N_fault_d.d 1 rfl) (by decide) y ?_
    refine AW.run X N_fault_d 10 1 rfl ?_
    exact AW.iret X (N_fault_d.d 11 rfl) (Nat.le_of_ble_eq_true rfl) (Nat.le_of_ble_eq_true rfl) ⟨by rw [if_neg z, if_neg z2]; rfl, rfl⟩

set_option maxHeartbeats 4000000 in
set_option maxRecDepth 100000 in
theorem N_isNumber_m {l : Launch} {G : ax_G} {h : List va_E} (w : Int32) :
    AM l VV G N_isNumber_y N_isNumber_c 1 (some .boolean) 0 0 0 [.int w] (h) (fun v h' => v = some (.int (bI (dc (zN w.toInt)))) ∧ h' = h) := by
  refine AM.of (pl := pl_N) (by decide) v_good fl_N_ok kl_N_ok nofun (Nat.le_of_ble_eq_true rfl) ?_
  intro p e s m args below meth c X
  refine AW.run X N_isNumber_d 0 2 rfl ?_
  refine AW.icmp_lt X (N_isNumber_d.d 2 rfl) (fun q2 => ?_) (fun q2 => ?_)
  · refine AW.run X N_isNumber_d 8 1 rfl ?_
    exact AW.zret X n_0 (N_isNumber_d.d 9 rfl) (Nat.le_of_ble_eq_true rfl) (Nat.le_of_ble_eq_true rfl) ⟨vd_f (fun z => by have := (ii_lt (x := w) (a := -1073741824) ⟨by decide, by decide⟩).mp (zN_lo ▸ q2); have := z.1; omega), rfl⟩
  · refine AW.run X N_isNumber_d 3 2 rfl ?_
    refine AW.icmp_gt X (N_isNumber_d.d 5 rfl) (fun q5 => ?_) (fun q5 => ?_)
    · refine AW.run X N_isNumber_d 8 1 rfl ?_
      exact AW.zret X n_0 (N_isNumber_d.d 9 rfl) (Nat.le_of_ble_eq_true rfl) (Nat.le_of_ble_eq_true rfl) ⟨vd_f (fun z => by have := (ii_gt (x := w) (a := 1073741824) ⟨by decide, by decide⟩).mp (zN_hi ▸ q5); have := z.2; omega), rfl⟩
    · refine AW.run X N_isNumber_d 6 1 rfl ?_
      refine AW.goto X (N_isNumber_d.d 7 rfl) ?_
      exact AW.zret X n_1 (N_isNumber_d.d 9 rfl) (Nat.le_of_ble_eq_true rfl) (Nat.le_of_ble_eq_true rfl) ⟨vd_t ⟨by have := mt (ii_lt (x := w) (a := -1073741824) ⟨by decide, by decide⟩).mpr (zN_lo ▸ q2); omega, by have := mt (ii_gt (x := w) (a := 1073741824) ⟨by decide, by decide⟩).mpr (zN_hi ▸ q5); omega⟩, rfl⟩

set_option maxHeartbeats 4000000 in
set_option maxRecDepth 100000 in
theorem N_inputLimit_m {l : Launch} {G : ax_G} {h : List va_E} (w : Int32) :
    AM l VV G N_inputLimit_y N_inputLimit_c 1 (some .int) 0 0 0 [.int w] (h) (fun v h' => v = some (.int (if w = 0 then 3 else if w = 2 ∨ w = 3 then 1 else if w = 4 then 4 else 0)) ∧ h' = h) := by
  refine AM.of (pl := pl_N) (by decide) v_good fl_N_ok kl_N_ok nofun (Nat.le_of_ble_eq_true rfl) ?_
  intro p e s m args below meth c X
  refine AW.run X N_inputLimit_d 0 1 rfl ?_
  rcases tk5 w with z | z | z | z | z | z
  · refine AW.tableOut X (N_inputLimit_d.d 1 rfl) z ?_
    refine AW.run X N_inputLimit_d 8 1 rfl ?_
    exact AW.iret X (N_inputLimit_d.d 9 rfl) (Nat.le_of_ble_eq_true rfl) (Nat.le_of_ble_eq_true rfl) ⟨by rw [if_neg (fun e => by rw [e] at z; exact absurd z (by decide)), if_neg (fun e => by rcases e with e | e <;> rw [e] at z <;> exact absurd z (by decide)), if_neg (fun e => by rw [e] at z; exact absurd z (by decide))]; rfl, rfl⟩
  · subst z
    refine AW.tableIn X (N_inputLimit_d.d 1 rfl) (by decide) (by decide) (off := 35) (by decide) ?_
    refine AW.run X N_inputLimit_d 2 1 rfl ?_
    exact AW.iret X (N_inputLimit_d.d 3 rfl) (Nat.le_of_ble_eq_true rfl) (Nat.le_of_ble_eq_true rfl) ⟨rfl, rfl⟩
  · subst z
    refine AW.tableIn X (N_inputLimit_d.d 1 rfl) (by decide) (by decide) (off := 41) (by decide) ?_
    refine AW.run X N_inputLimit_d 8 1 rfl ?_
    exact AW.iret X (N_inputLimit_d.d 9 rfl) (Nat.le_of_ble_eq_true rfl) (Nat.le_of_ble_eq_true rfl) ⟨rfl, rfl⟩
  · subst z
    refine AW.tableIn X (N_inputLimit_d.d 1 rfl) (by decide) (by decide) (off := 37) (by decide) ?_
    refine AW.run X N_inputLimit_d 4 1 rfl ?_
    exact AW.iret X (N_inputLimit_d.d 5 rfl) (Nat.le_of_ble_eq_true rfl) (Nat.le_of_ble_eq_true rfl) ⟨rfl, rfl⟩
  · subst z
    refine AW.tableIn X (N_inputLimit_d.d 1 rfl) (by decide) (by decide) (off := 37) (by decide) ?_
    refine AW.run X N_inputLimit_d 4 1 rfl ?_
    exact AW.iret X (N_inputLimit_d.d 5 rfl) (Nat.le_of_ble_eq_true rfl) (Nat.le_of_ble_eq_true rfl) ⟨rfl, rfl⟩
  · subst z
    refine AW.tableIn X (N_inputLimit_d.d 1 rfl) (by decide) (by decide) (off := 39) (by decide) ?_
    refine AW.run X N_inputLimit_d 6 1 rfl ?_
    exact AW.iret X (N_inputLimit_d.d 7 rfl) (Nat.le_of_ble_eq_true rfl) (Nat.le_of_ble_eq_true rfl) ⟨rfl, rfl⟩

set_option maxHeartbeats 4000000 in
set_option maxRecDepth 100000 in
theorem U_set_m {l : Launch} {G : ax_G} (S : x_S) (tl : List va_E) (a b : Int32) :
    AM l VV G U_set_y U_set_c 3 none 0 0 0 [.ref 137, .int a, .int b] (x_hC S tl) (fun v h' => v = none ∧ h' = x_hC (x_i (x_i S 3 a) 4 b) tl) := by
  refine AM.of (pl := pl_U) (by decide) v_good fl_U_ok kl_U_ok nofun (Nat.le_of_ble_eq_true rfl) ?_
  intro p e s m args below meth c X
  refine AW.run X U_set_d 0 2 rfl ?_
  refine AW.cp3 X (U_set_d.d 2 rfl) ?_
  refine AW.run X U_set_d 3 2 rfl ?_
  refine AW.cp4 X (U_set_d.d 5 rfl) ?_
  exact AW.vret X (U_set_d.d 6 rfl) (Nat.le_of_ble_eq_true rfl) (Nat.le_of_ble_eq_true rfl) ⟨rfl, rfl⟩

set_option maxHeartbeats 4000000 in
set_option maxRecDepth 100000 in
theorem R_isBrace_m {l : Launch} {G : ax_G} {h : List va_E} (a : Int32) :
    AM l VV G R_isBrace_y R_isBrace_c 1 (some .boolean) 0 0 0 [.int a] (h) (fun v h' => v = some (.int (bI (decide (a = 123 ∨ a = 125)))) ∧ h' = h) := by
  refine AM.of (pl := pl_R) (by decide) v_good fl_R_ok kl_R_ok nofun (Nat.le_of_ble_eq_true rfl) ?_
  intro p e s m args below meth c X
  refine AW.run X R_isBrace_d 0 2 rfl ?_
  refine AW.icmp_eq X (R_isBrace_d.d 2 rfl) (fun q2 => ?_) (fun q2 => ?_)
  · refine AW.run X R_isBrace_d 6 1 rfl ?_
    refine AW.goto X (R_isBrace_d.d 7 rfl) ?_
    exact AW.zret X n_1 (R_isBrace_d.d 9 rfl) (Nat.le_of_ble_eq_true rfl) (Nat.le_of_ble_eq_true rfl) ⟨vb_t (Or.inl q2), rfl⟩
  · refine AW.run X R_isBrace_d 3 2 rfl ?_
    refine AW.icmp_ne X (R_isBrace_d.d 5 rfl) (fun q5 => ?_) (fun q5 => ?_)
    · refine AW.run X R_isBrace_d 8 1 rfl ?_
      exact AW.zret X n_0 (R_isBrace_d.d 9 rfl) (Nat.le_of_ble_eq_true rfl) (Nat.le_of_ble_eq_true rfl) ⟨vb_f (fun z => z.elim q2 q5), rfl⟩
    · refine AW.run X R_isBrace_d 6 1 rfl ?_
      refine AW.goto X (R_isBrace_d.d 7 rfl) ?_
      exact AW.zret X n_1 (R_isBrace_d.d 9 rfl) (Nat.le_of_ble_eq_true rfl) (Nat.le_of_ble_eq_true rfl) ⟨vb_t (Or.inr q5), rfl⟩

set_option maxHeartbeats 4000000 in
set_option maxRecDepth 100000 in
theorem N_cut_m {l : Launch} {G : ax_G} (S : x_S) (tl : List va_E) (k n : Nat) (hk : k < 2 ^ 31) (hn : n ≤ 8192) (hsz : S.1 0 = nI n) :
    AM l VV G N_cut_y N_cut_c 3 (some .int) 1 0 0 [.ref 129, .int (nI k)] (x_hC S tl) (fun v h' => v = some (.int (nI (n - k))) ∧ h' = x_hC (x_i S 0 (nI (n - (n - k)))) tl) := by
  refine AM.of (pl := pl_N) (by decide) v_good fl_N_ok kl_N_ok nofun (Nat.le_of_ble_eq_true rfl) ?_
  intro p e s m args below meth c X
  refine AW.run X N_cut_d 0 1 rfl ?_
  refine AW.if_ge X (N_cut_d.d 1 rfl) (fun q1 => ?_) (fun q1 => ?_)
  · refine AW.run X N_cut_d 7 5 rfl ?_
    refine AW.callS (As := [.int (S.1 0 - nI k), .int 0]) X (JMath_max1_m (S.1 0 - nI k) 0) cb_N_75 JMath_max1_st rfl ⟨Nat.le_of_ble_eq_true rfl, Nat.le_of_ble_eq_true rfl⟩ (Nat.le_of_ble_eq_true rfl) ⟨Nat.le_of_ble_eq_true rfl, Nat.le_of_ble_eq_true rfl⟩ (N_cut_d.d 12 rfl) (fun v h' q => ?_)
    obtain ⟨rfl, rfl⟩ := q
    rw [show (if S.1 0 - nI k < 0 then 0 else S.1 0 - nI k) = nI (n - k) from by rw [hsz]; exact mx_sub hn hk]
    refine AW.run X N_cut_d 13 6 rfl ?_
    refine AW.cp0 X (N_cut_d.d 19 rfl) ?_
    refine AW.run X N_cut_d 20 1 rfl ?_
    exact AW.iret X (N_cut_d.d 21 rfl) (Nat.le_of_ble_eq_true rfl) (Nat.le_of_ble_eq_true rfl) ⟨rfl, by rw [hsz, show nI n - nI (n - k) = nI (n - (n - k)) from pk_sub (by omega)]⟩
  · exact absurd (nI_pos' hk) q1

set_option maxHeartbeats 4000000 in
set_option maxRecDepth 100000 in
theorem N_tell_m {l : Launch} {G : ax_G} (S : x_S) (tl : List va_E) (w : Int32) (n : Nat) (hn : n < 96) (hc : S.1 2 = nI n) (hw : zN w.toInt) :
    AM l VV G N_tell_y N_tell_c 2 (some .int) 1 0 0 [.ref 129, .int w] (x_hC S tl) (fun v h' => v = some (.int (nI (n + 1))) ∧ h' = x_hC (x_i (x_a S 1 n w) 2 (nI (n + 1))) tl) := by
  refine AM.of (pl := pl_N) (by decide) v_good fl_N_ok kl_N_ok nofun (Nat.le_of_ble_eq_true rfl) ?_
  intro p e s m args below meth c X
  refine AW.run X N_tell_d 0 1 rfl ?_
  refine AW.callS (As := [.int w]) X (N_isNumber_m w) cb_N_81 N_isNumber_st rfl ⟨Nat.le_of_ble_eq_true rfl, Nat.le_of_ble_eq_true rfl⟩ (Nat.le_of_ble_eq_true rfl) ⟨Nat.le_of_ble_eq_true rfl, Nat.le_of_ble_eq_true rfl⟩ (N_tell_d.d 1 rfl) (fun v h' q => ?_)
  obtain ⟨rfl, rfl⟩ := q
  refine AW.if_ne X (N_tell_d.d 2 rfl) (fun q2 => ?_) (fun q2 => absurd (dq_f.mp q2) (fun z => z hw))
  refine AW.run X N_tell_d 8 4 rfl ?_
  refine AW.icmp_lt X (N_tell_d.d 12 rfl) (fun q12 => ?_) (fun q12 => absurd ((nI_ltI (a := n) (b := 96) (by omega) (by decide)).mpr hn) (fun z => q12 (by rw [hc]; exact z)))
  refine AW.run X N_tell_d 18 7 rfl ?_
  refine AW.cs1 (j := n) X hc hn (N_tell_d.d 25 rfl) ?_
  refine AW.run X N_tell_d 26 6 rfl ?_
  refine AW.cp2 X (N_tell_d.d 32 rfl) ?_
  refine AW.run X N_tell_d 33 3 rfl ?_
  exact AW.iret X (N_tell_d.d 36 rfl) (Nat.le_of_ble_eq_true rfl) (Nat.le_of_ble_eq_true rfl) ⟨by show some (Value.int (S.1 2 + Int32.ofInt 1)) = _; rw [hc, nI_o1], by rw [← nI_o1, ← hc]; rfl⟩

set_option maxHeartbeats 4000000 in
set_option maxRecDepth 100000 in
theorem N_input_m {l : Launch} {G : ax_G} (S : x_S) (tl : List va_E) (w : Int32) (j : Nat) (hj : j < 4) (hw : zN w.toInt) :
    AM l VV G N_input_y N_input_c 4 (some .int) 1 0 0 [.ref 129, .int (nI j), .int w] (x_hC S tl) (fun v h' => v = some (.int (S.2.1 2 j)) ∧ h' = x_hC (x_a S 2 j w) tl) := by
  refine AM.of (pl := pl_N) (by decide) v_good fl_N_ok kl_N_ok nofun (Nat.le_of_ble_eq_true rfl) ?_
  intro p e s m args below meth c X
  refine AW.run X N_input_d 0 1 rfl ?_
  refine AW.if_lt X (N_input_d.d 1 rfl) (fun q1 => absurd q1 (nI_pos (by omega))) (fun q1 => ?_)
  refine AW.run X N_input_d 2 2 rfl ?_
  refine AW.icmp_ge X (N_input_d.d 4 rfl) (fun q4 => absurd (cge (b := 4) q4) (by omega)) (fun q4 => ?_)
  refine AW.run X N_input_d 5 1 rfl ?_
  refine AW.callS (As := [.int w]) X (N_isNumber_m w) cb_N_81 N_isNumber_st rfl ⟨Nat.le_of_ble_eq_true rfl, Nat.le_of_ble_eq_true rfl⟩ (Nat.le_of_ble_eq_true rfl) ⟨Nat.le_of_ble_eq_true rfl, Nat.le_of_ble_eq_true rfl⟩ (N_input_d.d 6 rfl) (fun v h' q => ?_)
  obtain ⟨rfl, rfl⟩ := q
  refine AW.if_ne X (N_input_d.d 7 rfl) (fun q7 => ?_) (fun q7 => absurd (dq_f.mp q7) (fun z => z hw))
  refine AW.run X N_input_d 13 3 rfl ?_
  refine AW.cl2 (j := j) X rfl hj (N_input_d.d 16 rfl) ?_
  refine AW.run X N_input_d 17 5 rfl ?_
  refine AW.cs2 (j := j) X rfl hj (N_input_d.d 22 rfl) ?_
  refine AW.run X N_input_d 23 1 rfl ?_
  exact AW.iret X (N_input_d.d 24 rfl) (Nat.le_of_ble_eq_true rfl) (Nat.le_of_ble_eq_true rfl) ⟨rfl, rfl⟩

set_option maxHeartbeats 4000000 in
set_option maxRecDepth 100000 in
theorem N_output_m {l : Launch} {G : ax_G} (S : x_S) (tl : List va_E) (j : Nat) (hj : j < 4) :
    AM l VV G N_output_y N_output_c 2 (some .int) 0 0 0 [.ref 129, .int (nI j)] (x_hC S tl) (fun v h' => v = some (.int (S.2.1 3 j)) ∧ h' = x_hC S tl) := by
  refine AM.of (pl := pl_N) (by decide) v_good fl_N_ok kl_N_ok nofun (Nat.le_of_ble_eq_true rfl) ?_
  intro p e s m args below meth c X
  refine AW.run X N_output_d 0 1 rfl ?_
  refine AW.if_lt X (N_output_d.d 1 rfl) (fun q1 => absurd q1 (nI_pos (by omega))) (fun q1 => ?_)
  refine AW.run X N_output_d 2 2 rfl ?_
  refine AW.icmp_lt X (N_output_d.d 4 rfl) (fun q4 => ?_) (fun q4 => absurd ((nI_ltI (a := j) (b := 4) (by omega) (by decide)).mpr hj) q4)
  refine AW.run X N_output_d 10 3 rfl ?_
  refine AW.cl3 (j := j) X rfl hj (N_output_d.d 13 rfl) ?_
  exact AW.iret X (N_output_d.d 14 rfl) (Nat.le_of_ble_eq_true rfl) (Nat.le_of_ble_eq_true rfl) ⟨rfl, rfl⟩

set_option maxHeartbeats 4000000 in
set_option maxRecDepth 100000 in
theorem N_isTold0_m {l : Launch} {G : ax_G} (S : x_S) (tl : List va_E) (i o n : Nat) (hi : 1 ≤ i ∧ i ≤ 3) (ho : 1 ≤ o ∧ o ≤ 4) (hc : S.1 2 = nI n) (hn : n ≤ 96) :
    AM l VV G N_isTold_y N_isTold_c 4 (some .boolean) 2 0 0 [.ref 129, .int (nI 0), .int (nI i), .int (nI o)] (x_hC S tl) (fun v h' => v = some (.int (bI (dc (tp_S2 (S.2.1 1) n i o o)))) ∧ h' = x_hC S tl) := by
  refine AM.of (pl := pl_N) (by decide) v_good fl_N_ok kl_N_ok nofun (Nat.le_of_ble_eq_true rfl) ?_
  intro p e s m args below meth c X
  refine AW.run X N_isTold_d 0 1 rfl ?_
  refine AW.tableIn X (N_isTold_d.d 1 rfl) (by decide) (by decide) (off := 31) (by decide) ?_
  refine AW.run X N_isTold_d 2 4 rfl ?_
  refine AW.callV (As := [.int (nI i), .int (nI o)]) X (T_saysSamples_m S tl i o n hi ho hc hn) cb_N_179 rfl rfl T_saysSamples_im T_saysSamples_se rfl ⟨Nat.le_of_ble_eq_true rfl, Nat.le_of_ble_eq_true rfl⟩ (Nat.le_of_ble_eq_true rfl) ⟨Nat.le_of_ble_eq_true rfl, Nat.le_of_ble_eq_true rfl⟩ (N_isTold_d.d 6 rfl) (fun v h' q => ?_)
  obtain ⟨rfl, rfl⟩ := q
  exact AW.zret X (bI_nar _) (N_isTold_d.d 7 rfl) (Nat.le_of_ble_eq_true rfl) (Nat.le_of_ble_eq_true rfl) ⟨rfl, rfl⟩

set_option maxHeartbeats 4000000 in
set_option maxRecDepth 100000 in
theorem N_isTold2_m {l : Launch} {G : ax_G} (S : x_S) (tl : List va_E) (i o n : Nat) (ho : o ≤ 4) (hc : S.1 2 = nI n) (hn : n ≤ 96) :
    AM l VV G N_isTold_y N_isTold_c 4 (some .boolean) 2 0 0 [.ref 129, .int (nI 2), .int (nI i), .int (nI o)] (x_hC S tl) (fun v h' => v = some (.int (bI (dc (tp_W (S.2.1 1) n o)))) ∧ h' = x_hC S tl) := by
  refine AM.of (pl := pl_N) (by decide) v_good fl_N_ok kl_N_ok nofun (Nat.le_of_ble_eq_true rfl) ?_
  intro p e s m args below meth c X
  refine AW.run X N_isTold_d 0 1 rfl ?_
  refine AW.tableIn X (N_isTold_d.d 1 rfl) (by decide) (by decide) (off := 41) (by decide) ?_
  refine AW.run X N_isTold_d 8 3 rfl ?_
  refine AW.callV (As := [.int (nI o)]) X (T_saysPowers_m S tl o n ho hc hn) cb_N_183 rfl rfl T_saysPowers_im T_saysPowers_se rfl ⟨Nat.le_of_ble_eq_true rfl, Nat.le_of_ble_eq_true rfl⟩ (Nat.le_of_ble_eq_true rfl) ⟨Nat.le_of_ble_eq_true rfl, Nat.le_of_ble_eq_true rfl⟩ (N_isTold_d.d 11 rfl) (fun v h' q => ?_)
  obtain ⟨rfl, rfl⟩ := q
  exact AW.zret X (bI_nar _) (N_isTold_d.d 12 rfl) (Nat.le_of_ble_eq_true rfl) (Nat.le_of_ble_eq_true rfl) ⟨rfl, rfl⟩

set_option maxHeartbeats 4000000 in
set_option maxRecDepth 100000 in
theorem N_isTold3_m {l : Launch} {G : ax_G} (S : x_S) (tl : List va_E) (i o n m0 : Nat) (tk gv : Nat → Int32) (ho : o ≤ 4) (hc : S.1 2 = nI n) (hn : n ≤ 96) (hm : S.1 1 = nI m0) (hm0 : m0 ≤ 24) (hf : f_F (x_hC S tl) (S.2.2.1 0) tk gv m0) :
    AM l VV G N_isTold_y N_isTold_c 4 (some .boolean) 2 0 0 [.ref 129, .int (nI 3), .int (nI i), .int (nI o)] (x_hC S tl) (fun v h' => ∃ K, tp_K (S.2.1 1) n K ∧ v = some (.int (bI (dc (tp_Z4 (S.2.1 1) tk gv n m0 (nI o) K (K - 1))))) ∧ h' = x_hC S tl) := by
  refine AM.of (pl := pl_N) (by decide) v_good fl_N_ok kl_N_ok nofun (Nat.le_of_ble_eq_true rfl) ?_
  intro p e s m args below meth c X
  refine AW.run X N_isTold_d 0 1 rfl ?_
  refine AW.tableIn X (N_isTold_d.d 1 rfl) (by decide) (by decide) (off := 50) (by decide) ?_
  refine AW.run X N_isTold_d 13 7 rfl ?_
  rw [hm]
  refine AW.callV (As := [.int (nI o), .ref 133, .int (nI m0)]) X (T_saysStitched_m S tl o n m0 tk gv ho hc hn hm0 hf) cb_N_186 rfl rfl T_saysStitched_im T_saysStitched_se rfl ⟨Nat.le_of_ble_eq_true rfl, Nat.le_of_ble_eq_true rfl⟩ (Nat.le_of_ble_eq_true rfl) ⟨Nat.le_of_ble_eq_true rfl, Nat.le_of_ble_eq_true rfl⟩ (N_isTold_d.d 20 rfl) (fun v h' q => ?_)
  obtain ⟨K, hK, rfl, rfl⟩ := q
  exact AW.zret X (bI_nar _) (N_isTold_d.d 21 rfl) (Nat.le_of_ble_eq_true rfl) (Nat.le_of_ble_eq_true rfl) ⟨K, hK, rfl, rfl⟩

set_option maxHeartbeats 4000000 in
set_option maxRecDepth 100000 in
theorem N_isTold4_m {l : Launch} {G : ax_G} (S : x_S) (tl : List va_E) (i o n : Nat) (hi : 1 ≤ i ∧ i ≤ 4) (ho : 1 ≤ o ∧ o ≤ 4) (hc : S.1 2 = nI n) (hn : n ≤ 96) :
    AM l VV G N_isTold_y N_isTold_c 4 (some .boolean) 2 0 0 [.ref 129, .int (nI 4), .int (nI i), .int (nI o)] (x_hC S tl) (fun v h' => v = some (.int (bI (dc (tp_P (S.2.1 1) n (i + o) (i + o))))) ∧ h' = x_hC S tl) := by
  refine AM.of (pl := pl_N) (by decide) v_good fl_N_ok kl_N_ok nofun (Nat.le_of_ble_eq_true rfl) ?_
  intro p e s m args below meth c X
  refine AW.run X N_isTold_d 0 1 rfl ?_
  refine AW.tableOut X (N_isTold_d.d 1 rfl) (by decide) ?_
  refine AW.run X N_isTold_d 22 4 rfl ?_
  refine AW.callV (As := [.int (nI i), .int (nI o)]) X (T_saysProgram_m S tl i o n hi ho hc hn) cb_N_190 rfl rfl T_saysProgram_im T_saysProgram_se rfl ⟨Nat.le_of_ble_eq_true rfl, Nat.le_of_ble_eq_true rfl⟩ (Nat.le_of_ble_eq_true rfl) ⟨Nat.le_of_ble_eq_true rfl, Nat.le_of_ble_eq_true rfl⟩ (N_isTold_d.d 26 rfl) (fun v h' q => ?_)
  obtain ⟨rfl, rfl⟩ := q
  exact AW.zret X (bI_nar _) (N_isTold_d.d 27 rfl) (Nat.le_of_ble_eq_true rfl) (Nat.le_of_ble_eq_true rfl) ⟨rfl, rfl⟩

set_option maxHeartbeats 4000000 in
set_option maxRecDepth 100000 in
theorem M_tell_m {l : Launch} {G : ax_G} (S : x_S) (M : x_M) (tl : List va_E) (w : Int32) (n : Nat) (hn : n ≤ 96) (hc : M.1 2 = nI n) :
    AM l VV G M_tell_y M_tell_c 2 (some .int) 1 0 0 [.ref 150, .int w] (x_hM S M tl) (fun v h' => if ¬ (-1073741824 ≤ w.toInt ∧ w.toInt ≤ 1073741824) then v = some (.int 0) ∧ h' = x_hM S (y_i M 0 1) tl else if n = 96 then v = some (.int 0) ∧ h' = x_hM S (y_i M 0 2) tl else v = some (.int (nI (n + 1))) ∧ h' = x_hM S (y_i (y_a (y_i M 0 0) 1 n w) 2 (nI (n + 1))) tl) := by
  refine AM.of (pl := pl_M) (by decide) v_good fl_M_ok kl_M_ok nofun (Nat.le_of_ble_eq_true rfl) ?_
  intro p e s m args below meth c X
  refine AW.run X M_tell_d 0 5 rfl ?_
  rw [i_l, show (-1073741824 : Int64) = lZ (-1073741824) from by decide, show (1073741824 : Int64) = lZ 1073741824 from by decide]
  refine AW.callS (As := [.long (lZ (w).toInt), .long (lZ (-1073741824)), .long (lZ 1073741824)]) X (M_isIn_m (w).toInt (-1073741824) 1073741824 (zL_of_i _) ⟨by decide, by decide⟩ ⟨by decide, by decide⟩) cb_M_92 M_isIn_st rfl ⟨Nat.le_of_ble_eq_true rfl, Nat.le_of_ble_eq_true rfl⟩ (Nat.le_of_ble_eq_true rfl) ⟨Nat.le_of_ble_eq_true rfl, Nat.le_of_ble_eq_true rfl⟩ (M_tell_d.d 5 rfl) (fun v h' q => ?_)
  obtain ⟨rfl, rfl⟩ := q
  rw [dc_dec]
  refine AW.if_ne X (M_tell_d.d 6 rfl) (fun q6 => ?_) (fun q6 => ?_)
  · refine AW.run X M_tell_d 9 3 rfl ?_
    refine AW.icmp_ne X (M_tell_d.d 12 rfl) (fun q12 => ?_) (fun q12 => ?_)
    · refine AW.run X M_tell_d 15 1 rfl ?_
      refine AW.callV (As := [.int 0]) X (M_refused_m S M tl 0) cb_M_84 rfl rfl M_refused_im M_refused_se rfl ⟨Nat.le_of_ble_eq_true rfl, Nat.le_of_ble_eq_true rfl⟩ (Nat.le_of_ble_eq_true rfl) ⟨Nat.le_of_ble_eq_true rfl, Nat.le_of_ble_eq_true rfl⟩ (M_tell_d.d 16 rfl) (fun v h' q => ?_)
      obtain ⟨rfl, rfl⟩ := q
      refine AW.if_eq X (M_tell_d.d 17 rfl) (fun q17 => ?_) (fun q17 => absurd q17 (by decide))
      have hlt : n < 96 := by
        have : n ≠ 96 := fun z => q12 (by rw [hc, z]; rfl)
        omega
      refine AW.run X M_tell_d 20 5 rfl ?_
      refine AW.ms1 (j := n) X hc hlt (M_tell_d.d 25 rfl) ?_
      refine AW.run X M_tell_d 26 5 rfl ?_
      refine AW.mp2 X (M_tell_d.d 31 rfl) ?_
      refine AW.run X M_tell_d 32 2 rfl ?_
      exact AW.iret X (M_tell_d.d 34 rfl) (Nat.le_of_ble_eq_true rfl) (Nat.le_of_ble_eq_true rfl) (by rw [if_neg (fun z => z (dq_t.mp q6)), if_neg (by omega)]; exact ⟨by show some (Value.int (M.1 2 + Int32.ofInt 1)) = _; rw [hc, nI_o1], by rw [← nI_o1, ← hc]; rfl⟩)
    · refine AW.run X M_tell_d 13 1 rfl ?_
      refine AW.goto X (M_tell_d.d 14 rfl) ?_
      refine AW.callV (As := [.int 2]) X (M_refused_m S M tl 2) cb_M_84 rfl rfl M_refused_im M_refused_se rfl ⟨Nat.le_of_ble_eq_true rfl, Nat.le_of_ble_eq_true rfl⟩ (Nat.le_of_ble_eq_true rfl) ⟨Nat.le_of_ble_eq_true rfl, Nat.le_of_ble_eq_true rfl⟩ (M_tell_d.d 16 rfl) (fun v h' q => ?_)
      obtain ⟨rfl, rfl⟩ := q
      refine AW.if_eq X (M_tell_d.d 17 rfl) (fun q17 => absurd q17 (by decide)) (fun q17 => ?_)
      refine AW.run X M_tell_d 18 1 rfl ?_
      exact AW.iret X (M_tell_d.d 19 rfl) (Nat.le_of_ble_eq_true rfl) (Nat.le_of_ble_eq_true rfl) (by rw [if_neg (fun z => z (dq_t.mp q6)), if_pos (ceq q12 hc)]; exact ⟨rfl, rfl⟩)
  · refine AW.run X M_tell_d 7 1 rfl ?_
    refine AW.goto X (M_tell_d.d 8 rfl) ?_
    refine AW.callV (As := [.int 1]) X (M_refused_m S M tl 1) cb_M_84 rfl rfl M_refused_im M_refused_se rfl ⟨Nat.le_of_ble_eq_true rfl, Nat.le_of_ble_eq_true rfl⟩ (Nat.le_of_ble_eq_true rfl) ⟨Nat.le_of_ble_eq_true rfl, Nat.le_of_ble_eq_true rfl⟩ (M_tell_d.d 16 rfl) (fun v h' q => ?_)
    obtain ⟨rfl, rfl⟩ := q
    refine AW.if_eq X (M_tell_d.d 17 rfl) (fun q17 => absurd q17 (by decide)) (fun q17 => ?_)
    refine AW.run X M_tell_d 18 1 rfl ?_
    exact AW.iret X (M_tell_d.d 19 rfl) (Nat.le_of_ble_eq_true rfl) (Nat.le_of_ble_eq_true rfl) (by rw [if_pos (dq_f.mp q6)]; exact ⟨rfl, rfl⟩)

set_option maxHeartbeats 4000000 in
set_option maxRecDepth 100000 in
theorem M_input_m {l : Launch} {G : ax_G} (S : x_S) (M : x_M) (tl : List va_E) (w x : Int32) :
    AM l VV G M_input_y M_input_c 4 (some .int) 1 0 0 [.ref 150, .int x, .int w] (x_hM S M tl) (fun v h' => if (0 ≤ x.toInt ∧ x.toInt ≤ 3) ∧ (-1073741824 ≤ w.toInt ∧ w.toInt ≤ 1073741824) then v = some (.int (M.2.1 2 x.toNatClampNeg)) ∧ h' = x_hM S (y_a (y_i M 0 0) 2 x.toNatClampNeg w) tl else v = some (.int 0) ∧ h' = x_hM S (y_i M 0 1) tl) := by
  refine AM.of (pl := pl_M) (by decide) v_good fl_M_ok kl_M_ok nofun (Nat.le_of_ble_eq_true rfl) ?_
  intro p e s m args below meth c X
  refine AW.run X M_input_d 0 5 rfl ?_
  rw [i_l, lZ_c0, show (3 : Int64) = lZ 3 from by decide]
  refine AW.callS (As := [.long (lZ (x).toInt), .long (lZ (0)), .long (lZ 3)]) X (M_isIn_m (x).toInt (0) 3 (zL_of_i _) ⟨by decide, by decide⟩ ⟨by decide, by decide⟩) cb_M_92 M_isIn_st rfl ⟨Nat.le_of_ble_eq_true rfl, Nat.le_of_ble_eq_true rfl⟩ (Nat.le_of_ble_eq_true rfl) ⟨Nat.le_of_ble_eq_true rfl, Nat.le_of_ble_eq_true rfl⟩ (M_input_d.d 5 rfl) (fun v h' q => ?_)
  obtain ⟨rfl, rfl⟩ := q
  rw [dc_dec]
  refine AW.if_eq X (M_input_d.d 6 rfl) (fun q6 => ?_) (fun q6 => ?_)
  · refine AW.run X M_input_d 13 1 rfl ?_
    refine AW.goto X (M_input_d.d 14 rfl) ?_
    refine AW.callV (As := [.int 1]) X (M_refused_m S M tl 1) cb_M_84 rfl rfl M_refused_im M_refused_se rfl ⟨Nat.le_of_ble_eq_true rfl, Nat.le_of_ble_eq_true rfl⟩ (Nat.le_of_ble_eq_true rfl) ⟨Nat.le_of_ble_eq_true rfl, Nat.le_of_ble_eq_true rfl⟩ (M_input_d.d 16 rfl) (fun v h' q => ?_)
    obtain ⟨rfl, rfl⟩ := q
    refine AW.if_eq X (M_input_d.d 17 rfl) (fun q17 => absurd q17 (by decide)) (fun q17 => ?_)
    refine AW.run X M_input_d 18 1 rfl ?_
    exact AW.iret X (M_input_d.d 19 rfl) (Nat.le_of_ble_eq_true rfl) (Nat.le_of_ble_eq_true rfl) (by rw [if_neg (fun z => dq_f.mp q6 z.1)]; exact ⟨rfl, rfl⟩)
  · refine AW.run X M_input_d 7 4 rfl ?_
    rw [i_l, show (-1073741824 : Int64) = lZ (-1073741824) from by decide, show (1073741824 : Int64) = lZ 1073741824 from by decide]
    refine AW.callS (As := [.long (lZ (w).toInt), .long (lZ (-1073741824)), .long (lZ 1073741824)]) X (M_isIn_m (w).toInt (-1073741824) 1073741824 (zL_of_i _) ⟨by decide, by decide⟩ ⟨by decide, by decide⟩) cb_M_92 M_isIn_st rfl ⟨Nat.le_of_ble_eq_true rfl, Nat.le_of_ble_eq_true rfl⟩ (Nat.le_of_ble_eq_true rfl) ⟨Nat.le_of_ble_eq_true rfl, Nat.le_of_ble_eq_true rfl⟩ (M_input_d.d 11 rfl) (fun v h' q => ?_)
    obtain ⟨rfl, rfl⟩ := q
    rw [dc_dec]
    refine AW.if_ne X (M_input_d.d 12 rfl) (fun q12 => ?_) (fun q12 => ?_)
    · refine AW.run X M_input_d 15 1 rfl ?_
      refine AW.callV (As := [.int 0]) X (M_refused_m S M tl 0) cb_M_84 rfl rfl M_refused_im M_refused_se rfl ⟨Nat.le_of_ble_eq_true rfl, Nat.le_of_ble_eq_true rfl⟩ (Nat.le_of_ble_eq_true rfl) ⟨Nat.le_of_ble_eq_true rfl, Nat.le_of_ble_eq_true rfl⟩ (M_input_d.d 16 rfl) (fun v h' q => ?_)
      obtain ⟨rfl, rfl⟩ := q
      refine AW.if_eq X (M_input_d.d 17 rfl) (fun q17 => ?_) (fun q17 => absurd q17 (by decide))
      have hx := dq_t.mp q6
      have hx2 : x = nI x.toNatClampNeg := i_nat (show x.toInt = (x.toInt.toNat : Int) by omega)
      have hx3 : x.toNatClampNeg < 4 := by show x.toInt.toNat < 4; omega
      refine AW.run X M_input_d 20 3 rfl ?_
      refine AW.ml2 (j := x.toNatClampNeg) X hx2 hx3 (M_input_d.d 23 rfl) ?_
      refine AW.run X M_input_d 24 5 rfl ?_
      refine AW.ms2 (j := x.toNatClampNeg) X hx2 hx3 (M_input_d.d 29 rfl) ?_
      refine AW.run X M_input_d 30 1 rfl ?_
      exact AW.iret X (M_input_d.d 31 rfl) (Nat.le_of_ble_eq_true rfl) (Nat.le_of_ble_eq_true rfl) (by rw [if_pos ⟨hx, dq_t.mp q12⟩]; exact ⟨rfl, rfl⟩)
    · refine AW.run X M_input_d 13 1 rfl ?_
      refine AW.goto X (M_input_d.d 14 rfl) ?_
      refine AW.callV (As := [.int 1]) X (M_refused_m S M tl 1) cb_M_84 rfl rfl M_refused_im M_refused_se rfl ⟨Nat.le_of_ble_eq_true rfl, Nat.le_of_ble_eq_true rfl⟩ (Nat.le_of_ble_eq_true rfl) ⟨Nat.le_of_ble_eq_true rfl, Nat.le_of_ble_eq_true rfl⟩ (M_input_d.d 16 rfl) (fun v h' q => ?_)
      obtain ⟨rfl, rfl⟩ := q
      refine AW.if_eq X (M_input_d.d 17 rfl) (fun q17 => absurd q17 (by decide)) (fun q17 => ?_)
      refine AW.run X M_input_d 18 1 rfl ?_
      exact AW.iret X (M_input_d.d 19 rfl) (Nat.le_of_ble_eq_true rfl) (Nat.le_of_ble_eq_true rfl) (by rw [if_neg (fun z => dq_f.mp q12 z.2)]; exact ⟨rfl, rfl⟩)

set_option maxHeartbeats 4000000 in
set_option maxRecDepth 100000 in
theorem M_output_m {l : Launch} {G : ax_G} (S : x_S) (M : x_M) (tl : List va_E) (x : Int32) :
    AM l VV G M_output_y M_output_c 2 (some .int) 1 0 0 [.ref 150, .int x] (x_hM S M tl) (fun v h' => if 0 ≤ x.toInt ∧ x.toInt ≤ 3 then v = some (.int (M.2.1 3 x.toNatClampNeg)) ∧ h' = x_hM S (y_i M 0 0) tl else v = some (.int 0) ∧ h' = x_hM S (y_i M 0 1) tl) := by
  refine AM.of (pl := pl_M) (by decide) v_good fl_M_ok kl_M_ok nofun (Nat.le_of_ble_eq_true rfl) ?_
  intro p e s m args below meth c X
  refine AW.run X M_output_d 0 5 rfl ?_
  rw [i_l, lZ_c0, show (3 : Int64) = lZ 3 from by decide]
  refine AW.callS (As := [.long (lZ (x).toInt), .long (lZ (0)), .long (lZ 3)]) X (M_isIn_m (x).toInt (0) 3 (zL_of_i _) ⟨by decide, by decide⟩ ⟨by decide, by decide⟩) cb_M_92 M_isIn_st rfl ⟨Nat.le_of_ble_eq_true rfl, Nat.le_of_ble_eq_true rfl⟩ (Nat.le_of_ble_eq_true rfl) ⟨Nat.le_of_ble_eq_true rfl, Nat.le_of_ble_eq_true rfl⟩ (M_output_d.d 5 rfl) (fun v h' q => ?_)
  obtain ⟨rfl, rfl⟩ := q
  rw [dc_dec]
  refine AW.if_eq X (M_output_d.d 6 rfl) (fun q6 => ?_) (fun q6 => ?_)
  · refine AW.run X M_output_d 9 1 rfl ?_
    refine AW.callV (As := [.int 1]) X (M_refused_m S M tl 1) cb_M_84 rfl rfl M_refused_im M_refused_se rfl ⟨Nat.le_of_ble_eq_true rfl, Nat.le_of_ble_eq_true rfl⟩ (Nat.le_of_ble_eq_true rfl) ⟨Nat.le_of_ble_eq_true rfl, Nat.le_of_ble_eq_true rfl⟩ (M_output_d.d 10 rfl) (fun v h' q => ?_)
    obtain ⟨rfl, rfl⟩ := q
    refine AW.if_eq X (M_output_d.d 11 rfl) (fun q11 => absurd q11 (by decide)) (fun q11 => ?_)
    refine AW.run X M_output_d 12 1 rfl ?_
    refine AW.goto X (M_output_d.d 13 rfl) ?_
    exact AW.iret X (M_output_d.d 18 rfl) (Nat.le_of_ble_eq_true rfl) (Nat.le_of_ble_eq_true rfl) (by rw [if_neg (fun z => dq_f.mp q6 z)]; exact ⟨rfl, rfl⟩)
  · refine AW.run X M_output_d 7 1 rfl ?_
    refine AW.goto X (M_output_d.d 8 rfl) ?_
    refine AW.callV (As := [.int 0]) X (M_refused_m S M tl 0) cb_M_84 rfl rfl M_refused_im M_refused_se rfl ⟨Nat.le_of_ble_eq_true rfl, Nat.le_of_ble_eq_true rfl⟩ (Nat.le_of_ble_eq_true rfl) ⟨Nat.le_of_ble_eq_true rfl, Nat.le_of_ble_eq_true rfl⟩ (M_output_d.d 10 rfl) (fun v h' q => ?_)
    obtain ⟨rfl, rfl⟩ := q
    refine AW.if_eq X (M_output_d.d 11 rfl) (fun q11 => ?_) (fun q11 => absurd q11 (by decide))
    have hx := dq_t.mp q6
    have hx2 : x = nI x.toNatClampNeg := i_nat (show x.toInt = (x.toInt.toNat : Int) by omega)
    have hx3 : x.toNatClampNeg < 4 := by show x.toInt.toNat < 4; omega
    refine AW.run X M_output_d 14 3 rfl ?_
    refine AW.ml3 (j := x.toNatClampNeg) X hx2 hx3 (M_output_d.d 17 rfl) ?_
    exact AW.iret X (M_output_d.d 18 rfl) (Nat.le_of_ble_eq_true rfl) (Nat.le_of_ble_eq_true rfl) (by rw [if_pos hx]; exact ⟨rfl, rfl⟩)

set_option maxHeartbeats 4000000 in
set_option maxRecDepth 100000 in
theorem M_of_m {l : Launch} {G : ax_G} (S : x_S) (M : x_M) (tl : List va_E) (f k : Nat) (hk : 96 * f + k < 2304) :
    AM l VV G M_of_y M_of_c 3 (some .long) 0 0 0 [.ref 150, .int (nI f), .int (nI k)] (x_hM S M tl) (fun v h' => v = some (.long (lZ (M.2.1 7 (96 * f + k)).toInt)) ∧ h' = x_hM S M tl) := by
  refine AM.of (pl := pl_M) (by decide) v_good fl_M_ok kl_M_ok nofun (Nat.le_of_ble_eq_true rfl) ?_
  intro p e s m args below meth c X
  refine AW.run X M_of_d 0 7 rfl ?_
  refine AW.ml7 (j := 96 * f + k) X (by rw [show (Int8.ofInt 96).toInt32 * nI f = nI (96 * f) from pk_mul 96 f, nI_add]) hk (M_of_d.d 7 rfl) ?_
  refine AW.run X M_of_d 8 1 rfl ?_
  exact AW.lret X (M_of_d.d 9 rfl) (Nat.le_of_ble_eq_true rfl) (Nat.le_of_ble_eq_true rfl) ⟨by rw [i_l], rfl⟩

set_option maxHeartbeats 4000000 in
set_option maxRecDepth 100000 in
theorem M_inputOf_m {l : Launch} {G : ax_G} (S : x_S) (M : x_M) (tl : List va_E) (k : Nat) (x : Int) (hk : k < 4) :
    AM l VV G M_inputOf_y M_inputOf_c 4 (some .long) 0 0 0 [.ref 150, .int (nI k), .long (lZ x)] (x_hM S M tl) (fun v h' => v = some (.long (lZ (if k = 0 then x else (M.2.1 2 k).toInt))) ∧ h' = x_hM S M tl) := by
  refine AM.of (pl := pl_M) (by decide) v_good fl_M_ok kl_M_ok nofun (Nat.le_of_ble_eq_true rfl) ?_
  intro p e s m args below meth c X
  refine AW.run X M_inputOf_d 0 1 rfl ?_
  refine AW.if_ne X (M_inputOf_d.d 1 rfl) (fun q1 => ?_) (fun q1 => ?_)
  · refine AW.run X M_inputOf_d 4 3 rfl ?_
    refine AW.ml2 (j := k) X rfl hk (M_inputOf_d.d 7 rfl) ?_
    refine AW.run X M_inputOf_d 8 1 rfl ?_
    exact AW.lret X (M_inputOf_d.d 9 rfl) (Nat.le_of_ble_eq_true rfl) (Nat.le_of_ble_eq_true rfl) ⟨by rw [i_l, if_neg (fun z => q1 (by rw [z]; rfl))], rfl⟩
  · refine AW.run X M_inputOf_d 2 1 rfl ?_
    refine AW.goto X (M_inputOf_d.d 3 rfl) ?_
    exact AW.lret X (M_inputOf_d.d 9 rfl) (Nat.le_of_ble_eq_true rfl) (Nat.le_of_ble_eq_true rfl) ⟨by rw [if_pos (ceq q1 rfl (show (0 : Int32) = nI 0 from rfl))], rfl⟩

set_option maxHeartbeats 4000000 in
set_option maxRecDepth 100000 in
theorem M_isGood_m {l : Launch} {G : ax_G} (S : x_S) (M : x_M) (tl : List va_E)  :
    AM l VV G M_isGood_y M_isGood_c 1 (some .boolean) 0 0 0 [.ref 150] (x_hM S M tl) (fun v h' => v = some (.int (bI (dc (M.1 3 = -1)))) ∧ h' = x_hM S M tl) := by
  refine AM.of (pl := pl_M) (by decide) v_good fl_M_ok kl_M_ok nofun (Nat.le_of_ble_eq_true rfl) ?_
  intro p e s m args below meth c X
  refine AW.run X M_isGood_d 0 3 rfl ?_
  refine AW.icmp_ne X (M_isGood_d.d 3 rfl) (fun q3 => ?_) (fun q3 => ?_)
  · refine AW.run X M_isGood_d 6 1 rfl ?_
    exact AW.zret X n_0 (M_isGood_d.d 7 rfl) (Nat.le_of_ble_eq_true rfl) (Nat.le_of_ble_eq_true rfl) ⟨vd_f q3, rfl⟩
  · refine AW.run X M_isGood_d 4 1 rfl ?_
    refine AW.goto X (M_isGood_d.d 5 rfl) ?_
    exact AW.zret X n_1 (M_isGood_d.d 7 rfl) (Nat.le_of_ble_eq_true rfl) (Nat.le_of_ble_eq_true rfl) ⟨vd_t q3, rfl⟩

set_option maxHeartbeats 4000000 in
set_option maxRecDepth 100000 in
theorem M_fail_m {l : Launch} {G : ax_G} (S : x_S) (M : x_M) (tl : List va_E) (k : Int32) :
    AM l VV G M_fail_y M_fail_c 2 none 1 0 0 [.ref 150, .int k] (x_hM S M tl) (fun v h' => v = none ∧ h' = (if M.1 3 = -1 then x_hM S (y_i (y_i M 3 k) 4 (M.1 11)) tl else x_hM S M tl)) := by
  refine AM.of (pl := pl_M) (by decide) v_good fl_M_ok kl_M_ok nofun (Nat.le_of_ble_eq_true rfl) ?_
  intro p e s m args below meth c X
  refine AW.run X M_fail_d 0 3 rfl ?_
  refine AW.icmp_ne X (M_fail_d.d 3 rfl) (fun q3 => ?_) (fun q3 => ?_)
  · exact AW.vret X (M_fail_d.d 9 rfl) (Nat.le_of_ble_eq_true rfl) (Nat.le_of_ble_eq_true rfl) ⟨rfl, by rw [if_neg (show ¬ M.1 3 = -1 from q3)]⟩
  · refine AW.run X M_fail_d 4 4 rfl ?_
    refine AW.callV (As := [.int k, .int (M.1 11)]) X (M_tellFault_m S M tl k (M.1 11)) cb_M_153 rfl rfl M_tellFault_im M_tellFault_se rfl ⟨Nat.le_of_ble_eq_true rfl, Nat.le_of_ble_eq_true rfl⟩ (Nat.le_of_ble_eq_true rfl) ⟨Nat.le_of_ble_eq_true rfl, Nat.le_of_ble_eq_true rfl⟩ (M_fail_d.d 8 rfl) (fun v h' q => ?_)
    obtain ⟨rfl, rfl⟩ := q
    exact AW.vret X (M_fail_d.d 9 rfl) (Nat.le_of_ble_eq_true rfl) (Nat.le_of_ble_eq_true rfl) ⟨rfl, by rw [if_pos (show M.1 3 = -1 from q3)]⟩
end
