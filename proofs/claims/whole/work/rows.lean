section
-- ===== PART A: goes FIRST, ahead of the names: the tables' words, and 'selects' of the private methods out of them =====
/-- a private method of a class that the tables say can be made, by its rows of tables_1 -/
def lw_okq (q : MethodName × Nat) : Prop := (q.1.cls ≠ "java/lang/invoke/MethodHandle" ∧ q.1.cls ≠ "java/lang/invoke/VarHandle") ∧ Cond.instantiable q.1.cls q.2 ∈ tables_1 ∧ Cond.privateMethod q.1 ∈ tables_1 ∧ Cond.instanceMethod q.1 ∈ tables_1
theorem lw_p0 : lw_okq (⟨"NumberFunctions", "appendBytes", "(I)V"⟩, 11) := ⟨⟨by decide +kernel, by decide +kernel⟩, List.mem_of_getElem? (i := 30) (by decide +kernel), List.mem_of_getElem? (i := 186) (by decide +kernel), List.mem_of_getElem? (i := 187) (by decide +kernel)⟩
theorem lw_p1 : lw_okq (⟨"java/lang/Throwable", "fillInStackTrace", "(I)Ljava/lang/Throwable;"⟩, 6) := ⟨⟨by decide +kernel, by decide +kernel⟩, List.mem_of_getElem? (i := 248) (by decide +kernel), List.mem_of_getElem? (i := 246) (by decide +kernel), List.mem_of_getElem? (i := 247) (by decide +kernel)⟩
theorem lw_p2 : lw_okq (⟨"NumberFunctions", "built", "(III)LNumberFunctions$Function;"⟩, 11) := ⟨⟨by decide +kernel, by decide +kernel⟩, List.mem_of_getElem? (i := 30) (by decide +kernel), List.mem_of_getElem? (i := 327) (by decide +kernel), List.mem_of_getElem? (i := 328) (by decide +kernel)⟩
theorem lw_p3 : lw_okq (⟨"NumberFunctions", "isTold", "(III)Z"⟩, 11) := ⟨⟨by decide +kernel, by decide +kernel⟩, List.mem_of_getElem? (i := 30) (by decide +kernel), List.mem_of_getElem? (i := 331) (by decide +kernel), List.mem_of_getElem? (i := 332) (by decide +kernel)⟩
theorem lw_p4 : lw_okq (⟨"NumberFunctions$Telling", "isPair", "(I)Z"⟩, 2) := ⟨⟨by decide +kernel, by decide +kernel⟩, List.mem_of_getElem? (i := 38) (by decide +kernel), List.mem_of_getElem? (i := 342) (by decide +kernel), List.mem_of_getElem? (i := 343) (by decide +kernel)⟩
theorem lw_p5 : lw_okq (⟨"NumberFunctions$Telling", "isOneOf", "(III)Z"⟩, 2) := ⟨⟨by decide +kernel, by decide +kernel⟩, List.mem_of_getElem? (i := 38) (by decide +kernel), List.mem_of_getElem? (i := 346) (by decide +kernel), List.mem_of_getElem? (i := 347) (by decide +kernel)⟩
theorem lw_p6 : lw_okq (⟨"NumberFunctions$Telling", "areBounds", "(II)Z"⟩, 2) := ⟨⟨by decide +kernel, by decide +kernel⟩, List.mem_of_getElem? (i := 38) (by decide +kernel), List.mem_of_getElem? (i := 361) (by decide +kernel), List.mem_of_getElem? (i := 362) (by decide +kernel)⟩
theorem lw_p7 : lw_okq (⟨"NumberFunctions", "builtSamples", "(II[I)LNumberFunctions$Function;"⟩, 11) := ⟨⟨by decide +kernel, by decide +kernel⟩, List.mem_of_getElem? (i := 30) (by decide +kernel), List.mem_of_getElem? (i := 385) (by decide +kernel), List.mem_of_getElem? (i := 386) (by decide +kernel)⟩
theorem lw_p8 : lw_okq (⟨"NumberFunctions$Reader", "wordStart", "(I)I"⟩, 13) := ⟨⟨by decide +kernel, by decide +kernel⟩, List.mem_of_getElem? (i := 72) (by decide +kernel), List.mem_of_getElem? (i := 482) (by decide +kernel), List.mem_of_getElem? (i := 483) (by decide +kernel)⟩
theorem lw_p9 : lw_okq (⟨"NumberFunctions$Reader", "signAt", "(I)I"⟩, 13) := ⟨⟨by decide +kernel, by decide +kernel⟩, List.mem_of_getElem? (i := 72) (by decide +kernel), List.mem_of_getElem? (i := 486) (by decide +kernel), List.mem_of_getElem? (i := 487) (by decide +kernel)⟩
theorem lw_p10 : lw_okq (⟨"NumberFunctions$Reader", "wordEnd", "(I)I"⟩, 13) := ⟨⟨by decide +kernel, by decide +kernel⟩, List.mem_of_getElem? (i := 72) (by decide +kernel), List.mem_of_getElem? (i := 490) (by decide +kernel), List.mem_of_getElem? (i := 491) (by decide +kernel)⟩
theorem lw_p11 : lw_okq (⟨"NumberFunctions$Reader", "take", "(II)I"⟩, 13) := ⟨⟨by decide +kernel, by decide +kernel⟩, List.mem_of_getElem? (i := 72) (by decide +kernel), List.mem_of_getElem? (i := 497) (by decide +kernel), List.mem_of_getElem? (i := 498) (by decide +kernel)⟩
theorem lw_p12 : lw_okq (⟨"NumberFunctions$Word", "isAt", "([BI)Z"⟩, 6) := ⟨⟨by decide +kernel, by decide +kernel⟩, List.mem_of_getElem? (i := 518) (by decide +kernel), List.mem_of_getElem? (i := 516) (by decide +kernel), List.mem_of_getElem? (i := 517) (by decide +kernel)⟩
theorem lw_p13 : lw_okq (⟨"NumberFunctions$Reader", "isMisplaced", "(LNumberFunctions$Word;)Z"⟩, 13) := ⟨⟨by decide +kernel, by decide +kernel⟩, List.mem_of_getElem? (i := 72) (by decide +kernel), List.mem_of_getElem? (i := 559) (by decide +kernel), List.mem_of_getElem? (i := 560) (by decide +kernel)⟩
theorem lw_p14 : lw_okq (⟨"NumberFunctions$Reader", "readNumeral", "(II)I"⟩, 13) := ⟨⟨by decide +kernel, by decide +kernel⟩, List.mem_of_getElem? (i := 72) (by decide +kernel), List.mem_of_getElem? (i := 569) (by decide +kernel), List.mem_of_getElem? (i := 570) (by decide +kernel)⟩
theorem lw_p15 : lw_okq (⟨"NumberFunctions$Reader", "digitsEnd", "(II)I"⟩, 13) := ⟨⟨by decide +kernel, by decide +kernel⟩, List.mem_of_getElem? (i := 72) (by decide +kernel), List.mem_of_getElem? (i := 573) (by decide +kernel), List.mem_of_getElem? (i := 574) (by decide +kernel)⟩
def lw_privs_1 : List (MethodName × Nat) := [(⟨"NumberFunctions", "appendBytes", "(I)V"⟩, 11), (⟨"java/lang/Throwable", "fillInStackTrace", "(I)Ljava/lang/Throwable;"⟩, 6), (⟨"NumberFunctions", "built", "(III)LNumberFunctions$Function;"⟩, 11), (⟨"NumberFunctions", "isTold", "(III)Z"⟩, 11), (⟨"NumberFunctions$Telling", "isPair", "(I)Z"⟩, 2), (⟨"NumberFunctions$Telling", "isOneOf", "(III)Z"⟩, 2), (⟨"NumberFunctions$Telling", "areBounds", "(II)Z"⟩, 2), (⟨"NumberFunctions", "builtSamples", "(II[I)LNumberFunctions$Function;"⟩, 11), (⟨"NumberFunctions$Reader", "wordStart", "(I)I"⟩, 13), (⟨"NumberFunctions$Reader", "signAt", "(I)I"⟩, 13), (⟨"NumberFunctions$Reader", "wordEnd", "(I)I"⟩, 13), (⟨"NumberFunctions$Reader", "take", "(II)I"⟩, 13), (⟨"NumberFunctions$Word", "isAt", "([BI)Z"⟩, 6), (⟨"NumberFunctions$Reader", "isMisplaced", "(LNumberFunctions$Word;)Z"⟩, 13), (⟨"NumberFunctions$Reader", "readNumeral", "(II)I"⟩, 13), (⟨"NumberFunctions$Reader", "digitsEnd", "(II)I"⟩, 13)]
theorem lw_r1 : ∀ q ∈ lw_privs_1, lw_okq q := List.forall_mem_cons.mpr ⟨lw_p0, List.forall_mem_cons.mpr ⟨lw_p1, List.forall_mem_cons.mpr ⟨lw_p2, List.forall_mem_cons.mpr ⟨lw_p3, List.forall_mem_cons.mpr ⟨lw_p4, List.forall_mem_cons.mpr ⟨lw_p5, List.forall_mem_cons.mpr ⟨lw_p6, List.forall_mem_cons.mpr ⟨lw_p7, List.forall_mem_cons.mpr ⟨lw_p8, List.forall_mem_cons.mpr ⟨lw_p9, List.forall_mem_cons.mpr ⟨lw_p10, List.forall_mem_cons.mpr ⟨lw_p11, List.forall_mem_cons.mpr ⟨lw_p12, List.forall_mem_cons.mpr ⟨lw_p13, List.forall_mem_cons.mpr ⟨lw_p14, List.forall_mem_cons.mpr ⟨lw_p15, fun _ h => absurd h List.not_mem_nil⟩⟩⟩⟩⟩⟩⟩⟩⟩⟩⟩⟩⟩⟩⟩⟩
theorem lw_p16 : lw_okq (⟨"NumberFunctions$Reader", "wholePart", "(II)I"⟩, 13) := ⟨⟨by decide +kernel, by decide +kernel⟩, List.mem_of_getElem? (i := 72) (by decide +kernel), List.mem_of_getElem? (i := 577) (by decide +kernel), List.mem_of_getElem? (i := 578) (by decide +kernel)⟩
theorem lw_p17 : lw_okq (⟨"NumberFunctions$Reader", "fractionPart", "(II)I"⟩, 13) := ⟨⟨by decide +kernel, by decide +kernel⟩, List.mem_of_getElem? (i := 72) (by decide +kernel), List.mem_of_getElem? (i := 583) (by decide +kernel), List.mem_of_getElem? (i := 584) (by decide +kernel)⟩
theorem lw_p18 : lw_okq (⟨"NumberFunctions$Reader", "put", "(LNumberFunctions$Word;)V"⟩, 13) := ⟨⟨by decide +kernel, by decide +kernel⟩, List.mem_of_getElem? (i := 72) (by decide +kernel), List.mem_of_getElem? (i := 592) (by decide +kernel), List.mem_of_getElem? (i := 593) (by decide +kernel)⟩
theorem lw_p19 : lw_okq (⟨"NumberFunctions$Reader", "close", "()V"⟩, 13) := ⟨⟨by decide +kernel, by decide +kernel⟩, List.mem_of_getElem? (i := 72) (by decide +kernel), List.mem_of_getElem? (i := 598) (by decide +kernel), List.mem_of_getElem? (i := 599) (by decide +kernel)⟩
theorem lw_p20 : lw_okq (⟨"NumberFunctions$Reader", "joinChoice", "(I)V"⟩, 13) := ⟨⟨by decide +kernel, by decide +kernel⟩, List.mem_of_getElem? (i := 72) (by decide +kernel), List.mem_of_getElem? (i := 602) (by decide +kernel), List.mem_of_getElem? (i := 603) (by decide +kernel)⟩
theorem lw_p21 : lw_okq (⟨"NumberFunctions$Machine", "constant", "(LNumberFunctions$Word;I)I"⟩, 4) := ⟨⟨by decide +kernel, by decide +kernel⟩, List.mem_of_getElem? (i := 125) (by decide +kernel), List.mem_of_getElem? (i := 719) (by decide +kernel), List.mem_of_getElem? (i := 720) (by decide +kernel)⟩
theorem lw_p22 : lw_okq (⟨"NumberFunctions$Machine", "giveTruth", "(IZ)I"⟩, 4) := ⟨⟨by decide +kernel, by decide +kernel⟩, List.mem_of_getElem? (i := 125) (by decide +kernel), List.mem_of_getElem? (i := 727) (by decide +kernel), List.mem_of_getElem? (i := 728) (by decide +kernel)⟩
theorem lw_p23 : lw_okq (⟨"NumberFunctions$Machine", "oneNumber", "(LNumberFunctions$Word;)I"⟩, 4) := ⟨⟨by decide +kernel, by decide +kernel⟩, List.mem_of_getElem? (i := 125) (by decide +kernel), List.mem_of_getElem? (i := 731) (by decide +kernel), List.mem_of_getElem? (i := 732) (by decide +kernel)⟩
theorem lw_p24 : lw_okq (⟨"NumberFunctions$Machine", "twoNumbers", "(LNumberFunctions$Word;)I"⟩, 4) := ⟨⟨by decide +kernel, by decide +kernel⟩, List.mem_of_getElem? (i := 125) (by decide +kernel), List.mem_of_getElem? (i := 763) (by decide +kernel), List.mem_of_getElem? (i := 764) (by decide +kernel)⟩
theorem lw_p25 : lw_okq (⟨"NumberFunctions$Machine", "twoWholes", "(LNumberFunctions$Word;)I"⟩, 4) := ⟨⟨by decide +kernel, by decide +kernel⟩, List.mem_of_getElem? (i := 125) (by decide +kernel), List.mem_of_getElem? (i := 780) (by decide +kernel), List.mem_of_getElem? (i := 781) (by decide +kernel)⟩
theorem lw_p26 : lw_okq (⟨"NumberFunctions$Machine", "faultOfWholes", "(I)I"⟩, 4) := ⟨⟨by decide +kernel, by decide +kernel⟩, List.mem_of_getElem? (i := 125) (by decide +kernel), List.mem_of_getElem? (i := 784) (by decide +kernel), List.mem_of_getElem? (i := 785) (by decide +kernel)⟩
theorem lw_p27 : lw_okq (⟨"NumberFunctions$Machine", "giveWhole", "(II)I"⟩, 4) := ⟨⟨by decide +kernel, by decide +kernel⟩, List.mem_of_getElem? (i := 125) (by decide +kernel), List.mem_of_getElem? (i := 794) (by decide +kernel), List.mem_of_getElem? (i := 795) (by decide +kernel)⟩
theorem lw_p28 : lw_okq (⟨"NumberFunctions$Machine", "comparison", "(LNumberFunctions$Word;)I"⟩, 4) := ⟨⟨by decide +kernel, by decide +kernel⟩, List.mem_of_getElem? (i := 125) (by decide +kernel), List.mem_of_getElem? (i := 801) (by decide +kernel), List.mem_of_getElem? (i := 802) (by decide +kernel)⟩
theorem lw_p29 : lw_okq (⟨"NumberFunctions$Machine", "negation", "()I"⟩, 4) := ⟨⟨by decide +kernel, by decide +kernel⟩, List.mem_of_getElem? (i := 125) (by decide +kernel), List.mem_of_getElem? (i := 814) (by decide +kernel), List.mem_of_getElem? (i := 815) (by decide +kernel)⟩
theorem lw_p30 : lw_okq (⟨"NumberFunctions$Machine", "logic", "(LNumberFunctions$Word;)I"⟩, 4) := ⟨⟨by decide +kernel, by decide +kernel⟩, List.mem_of_getElem? (i := 125) (by decide +kernel), List.mem_of_getElem? (i := 818) (by decide +kernel), List.mem_of_getElem? (i := 819) (by decide +kernel)⟩
theorem lw_p31 : lw_okq (⟨"NumberFunctions$Machine", "move", "(LNumberFunctions$Word;)I"⟩, 4) := ⟨⟨by decide +kernel, by decide +kernel⟩, List.mem_of_getElem? (i := 125) (by decide +kernel), List.mem_of_getElem? (i := 825) (by decide +kernel), List.mem_of_getElem? (i := 826) (by decide +kernel)⟩
def lw_privs_2 : List (MethodName × Nat) := [(⟨"NumberFunctions$Reader", "wholePart", "(II)I"⟩, 13), (⟨"NumberFunctions$Reader", "fractionPart", "(II)I"⟩, 13), (⟨"NumberFunctions$Reader", "put", "(LNumberFunctions$Word;)V"⟩, 13), (⟨"NumberFunctions$Reader", "close", "()V"⟩, 13), (⟨"NumberFunctions$Reader", "joinChoice", "(I)V"⟩, 13), (⟨"NumberFunctions$Machine", "constant", "(LNumberFunctions$Word;I)I"⟩, 4), (⟨"NumberFunctions$Machine", "giveTruth", "(IZ)I"⟩, 4), (⟨"NumberFunctions$Machine", "oneNumber", "(LNumberFunctions$Word;)I"⟩, 4), (⟨"NumberFunctions$Machine", "twoNumbers", "(LNumberFunctions$Word;)I"⟩, 4), (⟨"NumberFunctions$Machine", "twoWholes", "(LNumberFunctions$Word;)I"⟩, 4), (⟨"NumberFunctions$Machine", "faultOfWholes", "(I)I"⟩, 4), (⟨"NumberFunctions$Machine", "giveWhole", "(II)I"⟩, 4), (⟨"NumberFunctions$Machine", "comparison", "(LNumberFunctions$Word;)I"⟩, 4), (⟨"NumberFunctions$Machine", "negation", "()I"⟩, 4), (⟨"NumberFunctions$Machine", "logic", "(LNumberFunctions$Word;)I"⟩, 4), (⟨"NumberFunctions$Machine", "move", "(LNumberFunctions$Word;)I"⟩, 4)]
theorem lw_r2 : ∀ q ∈ lw_privs_2, lw_okq q := List.forall_mem_cons.mpr ⟨lw_p16, List.forall_mem_cons.mpr ⟨lw_p17, List.forall_mem_cons.mpr ⟨lw_p18, List.forall_mem_cons.mpr ⟨lw_p19, List.forall_mem_cons.mpr ⟨lw_p20, List.forall_mem_cons.mpr ⟨lw_p21, List.forall_mem_cons.mpr ⟨lw_p22, List.forall_mem_cons.mpr ⟨lw_p23, List.forall_mem_cons.mpr ⟨lw_p24, List.forall_mem_cons.mpr ⟨lw_p25, List.forall_mem_cons.mpr ⟨lw_p26, List.forall_mem_cons.mpr ⟨lw_p27, List.forall_mem_cons.mpr ⟨lw_p28, List.forall_mem_cons.mpr ⟨lw_p29, List.forall_mem_cons.mpr ⟨lw_p30, List.forall_mem_cons.mpr ⟨lw_p31, fun _ h => absurd h List.not_mem_nil⟩⟩⟩⟩⟩⟩⟩⟩⟩⟩⟩⟩⟩⟩⟩⟩
theorem lw_p32 : lw_okq (⟨"NumberFunctions$Machine", "reverse", "(II)V"⟩, 4) := ⟨⟨by decide +kernel, by decide +kernel⟩, List.mem_of_getElem? (i := 125) (by decide +kernel), List.mem_of_getElem? (i := 829) (by decide +kernel), List.mem_of_getElem? (i := 830) (by decide +kernel)⟩
theorem lw_p33 : lw_okq (⟨"NumberFunctions$Machine", "roll", "()I"⟩, 4) := ⟨⟨by decide +kernel, by decide +kernel⟩, List.mem_of_getElem? (i := 125) (by decide +kernel), List.mem_of_getElem? (i := 835) (by decide +kernel), List.mem_of_getElem? (i := 836) (by decide +kernel)⟩
theorem lw_p34 : lw_okq (⟨"NumberFunctions$Machine", "turn", "(II)V"⟩, 4) := ⟨⟨by decide +kernel, by decide +kernel⟩, List.mem_of_getElem? (i := 125) (by decide +kernel), List.mem_of_getElem? (i := 842) (by decide +kernel), List.mem_of_getElem? (i := 843) (by decide +kernel)⟩
theorem lw_p35 : lw_okq (⟨"NumberFunctions$Machine", "reach", "(LNumberFunctions$Word;)I"⟩, 4) := ⟨⟨by decide +kernel, by decide +kernel⟩, List.mem_of_getElem? (i := 125) (by decide +kernel), List.mem_of_getElem? (i := 846) (by decide +kernel), List.mem_of_getElem? (i := 847) (by decide +kernel)⟩
theorem lw_p36 : lw_okq (⟨"NumberFunctions$Machine", "copyUpper", "(II)I"⟩, 4) := ⟨⟨by decide +kernel, by decide +kernel⟩, List.mem_of_getElem? (i := 125) (by decide +kernel), List.mem_of_getElem? (i := 852) (by decide +kernel), List.mem_of_getElem? (i := 853) (by decide +kernel)⟩
theorem lw_p37 : lw_okq (⟨"NumberFunctions$Machine", "choice", "()I"⟩, 4) := ⟨⟨by decide +kernel, by decide +kernel⟩, List.mem_of_getElem? (i := 125) (by decide +kernel), List.mem_of_getElem? (i := 857) (by decide +kernel), List.mem_of_getElem? (i := 858) (by decide +kernel)⟩
theorem lw_p38 : lw_okq (⟨"NumberFunctions$Program", "takeResults", "([ILNumberFunctions$Fault;)V"⟩, 9) := ⟨⟨by decide +kernel, by decide +kernel⟩, List.mem_of_getElem? (i := 607) (by decide +kernel), List.mem_of_getElem? (i := 862) (by decide +kernel), List.mem_of_getElem? (i := 863) (by decide +kernel)⟩
theorem lw_p39 : lw_okq (⟨"NumberFunctions$Samples", "locate", "(II)V"⟩, 8) := ⟨⟨by decide +kernel, by decide +kernel⟩, List.mem_of_getElem? (i := 392) (by decide +kernel), List.mem_of_getElem? (i := 873) (by decide +kernel), List.mem_of_getElem? (i := 874) (by decide +kernel)⟩
theorem lw_p40 : lw_okq (⟨"NumberFunctions$Samples", "between", "(I)J"⟩, 8) := ⟨⟨by decide +kernel, by decide +kernel⟩, List.mem_of_getElem? (i := 392) (by decide +kernel), List.mem_of_getElem? (i := 886) (by decide +kernel), List.mem_of_getElem? (i := 887) (by decide +kernel)⟩
theorem lw_p41 : lw_okq (⟨"NumberFunctions$Samples", "placeOf", "(I)I"⟩, 8) := ⟨⟨by decide +kernel, by decide +kernel⟩, List.mem_of_getElem? (i := 392) (by decide +kernel), List.mem_of_getElem? (i := 890) (by decide +kernel), List.mem_of_getElem? (i := 891) (by decide +kernel)⟩
theorem lw_p42 : lw_okq (⟨"NumberFunctions$Samples", "sample", "(I)J"⟩, 8) := ⟨⟨by decide +kernel, by decide +kernel⟩, List.mem_of_getElem? (i := 392) (by decide +kernel), List.mem_of_getElem? (i := 895) (by decide +kernel), List.mem_of_getElem? (i := 896) (by decide +kernel)⟩
theorem lw_p43 : lw_okq (⟨"NumberFunctions$Samples", "bitAt", "(I)I"⟩, 8) := ⟨⟨by decide +kernel, by decide +kernel⟩, List.mem_of_getElem? (i := 392) (by decide +kernel), List.mem_of_getElem? (i := 900) (by decide +kernel), List.mem_of_getElem? (i := 901) (by decide +kernel)⟩
theorem lw_p44 : lw_okq (⟨"NumberFunctionsModel", "refused", "(I)Z"⟩, 32) := ⟨⟨by decide +kernel, by decide +kernel⟩, List.mem_of_getElem? (i := 920) (by decide +kernel), List.mem_of_getElem? (i := 1036) (by decide +kernel), List.mem_of_getElem? (i := 1037) (by decide +kernel)⟩
theorem lw_p45 : lw_okq (⟨"NumberFunctionsModel", "tellFault", "(II)V"⟩, 32) := ⟨⟨by decide +kernel, by decide +kernel⟩, List.mem_of_getElem? (i := 920) (by decide +kernel), List.mem_of_getElem? (i := 1078) (by decide +kernel), List.mem_of_getElem? (i := 1079) (by decide +kernel)⟩
theorem lw_p46 : lw_okq (⟨"NumberFunctionsModel", "isTold", "(III)Z"⟩, 32) := ⟨⟨by decide +kernel, by decide +kernel⟩, List.mem_of_getElem? (i := 920) (by decide +kernel), List.mem_of_getElem? (i := 1082) (by decide +kernel), List.mem_of_getElem? (i := 1083) (by decide +kernel)⟩
theorem lw_p47 : lw_okq (⟨"NumberFunctionsModel", "isSamples", "(II)Z"⟩, 32) := ⟨⟨by decide +kernel, by decide +kernel⟩, List.mem_of_getElem? (i := 920) (by decide +kernel), List.mem_of_getElem? (i := 1086) (by decide +kernel), List.mem_of_getElem? (i := 1087) (by decide +kernel)⟩
def lw_privs_3 : List (MethodName × Nat) := [(⟨"NumberFunctions$Machine", "reverse", "(II)V"⟩, 4), (⟨"NumberFunctions$Machine", "roll", "()I"⟩, 4), (⟨"NumberFunctions$Machine", "turn", "(II)V"⟩, 4), (⟨"NumberFunctions$Machine", "reach", "(LNumberFunctions$Word;)I"⟩, 4), (⟨"NumberFunctions$Machine", "copyUpper", "(II)I"⟩, 4), (⟨"NumberFunctions$Machine", "choice", "()I"⟩, 4), (⟨"NumberFunctions$Program", "takeResults", "([ILNumberFunctions$Fault;)V"⟩, 9), (⟨"NumberFunctions$Samples", "locate", "(II)V"⟩, 8), (⟨"NumberFunctions$Samples", "between", "(I)J"⟩, 8), (⟨"NumberFunctions$Samples", "placeOf", "(I)I"⟩, 8), (⟨"NumberFunctions$Samples", "sample", "(I)J"⟩, 8), (⟨"NumberFunctions$Samples", "bitAt", "(I)I"⟩, 8), (⟨"NumberFunctionsModel", "refused", "(I)Z"⟩, 32), (⟨"NumberFunctionsModel", "tellFault", "(II)V"⟩, 32), (⟨"NumberFunctionsModel", "isTold", "(III)Z"⟩, 32), (⟨"NumberFunctionsModel", "isSamples", "(II)Z"⟩, 32)]
theorem lw_r3 : ∀ q ∈ lw_privs_3, lw_okq q := List.forall_mem_cons.mpr ⟨lw_p32, List.forall_mem_cons.mpr ⟨lw_p33, List.forall_mem_cons.mpr ⟨lw_p34, List.forall_mem_cons.mpr ⟨lw_p35, List.forall_mem_cons.mpr ⟨lw_p36, List.forall_mem_cons.mpr ⟨lw_p37, List.forall_mem_cons.mpr ⟨lw_p38, List.forall_mem_cons.mpr ⟨lw_p39, List.forall_mem_cons.mpr ⟨lw_p40, List.forall_mem_cons.mpr ⟨lw_p41, List.forall_mem_cons.mpr ⟨lw_p42, List.forall_mem_cons.mpr ⟨lw_p43, List.forall_mem_cons.mpr ⟨lw_p44, List.forall_mem_cons.mpr ⟨lw_p45, List.forall_mem_cons.mpr ⟨lw_p46, List.forall_mem_cons.mpr ⟨lw_p47, fun _ h => absurd h List.not_mem_nil⟩⟩⟩⟩⟩⟩⟩⟩⟩⟩⟩⟩⟩⟩⟩⟩
theorem lw_p48 : lw_okq (⟨"NumberFunctionsModel", "isPair", "(I)Z"⟩, 32) := ⟨⟨by decide +kernel, by decide +kernel⟩, List.mem_of_getElem? (i := 920) (by decide +kernel), List.mem_of_getElem? (i := 1090) (by decide +kernel), List.mem_of_getElem? (i := 1091) (by decide +kernel)⟩
theorem lw_p49 : lw_okq (⟨"NumberFunctionsModel", "isPowers", "(I)Z"⟩, 32) := ⟨⟨by decide +kernel, by decide +kernel⟩, List.mem_of_getElem? (i := 920) (by decide +kernel), List.mem_of_getElem? (i := 1095) (by decide +kernel), List.mem_of_getElem? (i := 1096) (by decide +kernel)⟩
theorem lw_p50 : lw_okq (⟨"NumberFunctionsModel", "isStitched", "(I)Z"⟩, 32) := ⟨⟨by decide +kernel, by decide +kernel⟩, List.mem_of_getElem? (i := 920) (by decide +kernel), List.mem_of_getElem? (i := 1100) (by decide +kernel), List.mem_of_getElem? (i := 1101) (by decide +kernel)⟩
theorem lw_p51 : lw_okq (⟨"NumberFunctionsModel", "arePairs", "(I)Z"⟩, 32) := ⟨⟨by decide +kernel, by decide +kernel⟩, List.mem_of_getElem? (i := 920) (by decide +kernel), List.mem_of_getElem? (i := 1105) (by decide +kernel), List.mem_of_getElem? (i := 1106) (by decide +kernel)⟩
theorem lw_p52 : lw_okq (⟨"NumberFunctionsModel", "sampleBytes", "(II)I"⟩, 32) := ⟨⟨by decide +kernel, by decide +kernel⟩, List.mem_of_getElem? (i := 920) (by decide +kernel), List.mem_of_getElem? (i := 1109) (by decide +kernel), List.mem_of_getElem? (i := 1110) (by decide +kernel)⟩
theorem lw_p53 : lw_okq (⟨"NumberFunctionsModel", "readWords", "(I)V"⟩, 32) := ⟨⟨by decide +kernel, by decide +kernel⟩, List.mem_of_getElem? (i := 920) (by decide +kernel), List.mem_of_getElem? (i := 1114) (by decide +kernel), List.mem_of_getElem? (i := 1115) (by decide +kernel)⟩
theorem lw_p54 : lw_okq (⟨"NumberFunctionsModel", "signAt", "(II)I"⟩, 32) := ⟨⟨by decide +kernel, by decide +kernel⟩, List.mem_of_getElem? (i := 920) (by decide +kernel), List.mem_of_getElem? (i := 1118) (by decide +kernel), List.mem_of_getElem? (i := 1119) (by decide +kernel)⟩
theorem lw_p55 : lw_okq (⟨"NumberFunctionsModel", "show", "(II)V"⟩, 32) := ⟨⟨by decide +kernel, by decide +kernel⟩, List.mem_of_getElem? (i := 920) (by decide +kernel), List.mem_of_getElem? (i := 1125) (by decide +kernel), List.mem_of_getElem? (i := 1126) (by decide +kernel)⟩
theorem lw_p56 : lw_okq (⟨"NumberFunctionsModel", "isWord", "(IILjava/lang/String;)Z"⟩, 32) := ⟨⟨by decide +kernel, by decide +kernel⟩, List.mem_of_getElem? (i := 920) (by decide +kernel), List.mem_of_getElem? (i := 1130) (by decide +kernel), List.mem_of_getElem? (i := 1131) (by decide +kernel)⟩
theorem lw_p57 : lw_okq (⟨"NumberFunctionsModel", "checkWord", "(III)V"⟩, 32) := ⟨⟨by decide +kernel, by decide +kernel⟩, List.mem_of_getElem? (i := 920) (by decide +kernel), List.mem_of_getElem? (i := 1137) (by decide +kernel), List.mem_of_getElem? (i := 1138) (by decide +kernel)⟩
theorem lw_p58 : lw_okq (⟨"NumberFunctionsModel", "isNumber", "(II)Z"⟩, 32) := ⟨⟨by decide +kernel, by decide +kernel⟩, List.mem_of_getElem? (i := 920) (by decide +kernel), List.mem_of_getElem? (i := 1141) (by decide +kernel), List.mem_of_getElem? (i := 1142) (by decide +kernel)⟩
theorem lw_p59 : lw_okq (⟨"NumberFunctionsModel", "partOf", "(IIZ)J"⟩, 32) := ⟨⟨by decide +kernel, by decide +kernel⟩, List.mem_of_getElem? (i := 920) (by decide +kernel), List.mem_of_getElem? (i := 1148) (by decide +kernel), List.mem_of_getElem? (i := 1149) (by decide +kernel)⟩
theorem lw_p60 : lw_okq (⟨"NumberFunctionsModel", "nameOf", "(II)I"⟩, 32) := ⟨⟨by decide +kernel, by decide +kernel⟩, List.mem_of_getElem? (i := 920) (by decide +kernel), List.mem_of_getElem? (i := 1158) (by decide +kernel), List.mem_of_getElem? (i := 1159) (by decide +kernel)⟩
theorem lw_p61 : lw_okq (⟨"NumberFunctionsModel", "stitched", "(IJ)J"⟩, 32) := ⟨⟨by decide +kernel, by decide +kernel⟩, List.mem_of_getElem? (i := 920) (by decide +kernel), List.mem_of_getElem? (i := 1203) (by decide +kernel), List.mem_of_getElem? (i := 1204) (by decide +kernel)⟩
theorem lw_p62 : lw_okq (⟨"NumberFunctionsModel", "of", "(II)J"⟩, 32) := ⟨⟨by decide +kernel, by decide +kernel⟩, List.mem_of_getElem? (i := 920) (by decide +kernel), List.mem_of_getElem? (i := 1207) (by decide +kernel), List.mem_of_getElem? (i := 1208) (by decide +kernel)⟩
theorem lw_p63 : lw_okq (⟨"NumberFunctionsModel", "samples", "(IJ)V"⟩, 32) := ⟨⟨by decide +kernel, by decide +kernel⟩, List.mem_of_getElem? (i := 920) (by decide +kernel), List.mem_of_getElem? (i := 1224) (by decide +kernel), List.mem_of_getElem? (i := 1225) (by decide +kernel)⟩
def lw_privs_4 : List (MethodName × Nat) := [(⟨"NumberFunctionsModel", "isPair", "(I)Z"⟩, 32), (⟨"NumberFunctionsModel", "isPowers", "(I)Z"⟩, 32), (⟨"NumberFunctionsModel", "isStitched", "(I)Z"⟩, 32), (⟨"NumberFunctionsModel", "arePairs", "(I)Z"⟩, 32), (⟨"NumberFunctionsModel", "sampleBytes", "(II)I"⟩, 32), (⟨"NumberFunctionsModel", "readWords", "(I)V"⟩, 32), (⟨"NumberFunctionsModel", "signAt", "(II)I"⟩, 32), (⟨"NumberFunctionsModel", "show", "(II)V"⟩, 32), (⟨"NumberFunctionsModel", "isWord", "(IILjava/lang/String;)Z"⟩, 32), (⟨"NumberFunctionsModel", "checkWord", "(III)V"⟩, 32), (⟨"NumberFunctionsModel", "isNumber", "(II)Z"⟩, 32), (⟨"NumberFunctionsModel", "partOf", "(IIZ)J"⟩, 32), (⟨"NumberFunctionsModel", "nameOf", "(II)I"⟩, 32), (⟨"NumberFunctionsModel", "stitched", "(IJ)J"⟩, 32), (⟨"NumberFunctionsModel", "of", "(II)J"⟩, 32), (⟨"NumberFunctionsModel", "samples", "(IJ)V"⟩, 32)]
theorem lw_r4 : ∀ q ∈ lw_privs_4, lw_okq q := List.forall_mem_cons.mpr ⟨lw_p48, List.forall_mem_cons.mpr ⟨lw_p49, List.forall_mem_cons.mpr ⟨lw_p50, List.forall_mem_cons.mpr ⟨lw_p51, List.forall_mem_cons.mpr ⟨lw_p52, List.forall_mem_cons.mpr ⟨lw_p53, List.forall_mem_cons.mpr ⟨lw_p54, List.forall_mem_cons.mpr ⟨lw_p55, List.forall_mem_cons.mpr ⟨lw_p56, List.forall_mem_cons.mpr ⟨lw_p57, List.forall_mem_cons.mpr ⟨lw_p58, List.forall_mem_cons.mpr ⟨lw_p59, List.forall_mem_cons.mpr ⟨lw_p60, List.forall_mem_cons.mpr ⟨lw_p61, List.forall_mem_cons.mpr ⟨lw_p62, List.forall_mem_cons.mpr ⟨lw_p63, fun _ h => absurd h List.not_mem_nil⟩⟩⟩⟩⟩⟩⟩⟩⟩⟩⟩⟩⟩⟩⟩⟩
theorem lw_p64 : lw_okq (⟨"NumberFunctionsModel", "inputOf", "(IJ)J"⟩, 32) := ⟨⟨by decide +kernel, by decide +kernel⟩, List.mem_of_getElem? (i := 920) (by decide +kernel), List.mem_of_getElem? (i := 1228) (by decide +kernel), List.mem_of_getElem? (i := 1229) (by decide +kernel)⟩
theorem lw_p65 : lw_okq (⟨"NumberFunctionsModel", "interpolated", "(III)J"⟩, 32) := ⟨⟨by decide +kernel, by decide +kernel⟩, List.mem_of_getElem? (i := 920) (by decide +kernel), List.mem_of_getElem? (i := 1232) (by decide +kernel), List.mem_of_getElem? (i := 1233) (by decide +kernel)⟩
theorem lw_p66 : lw_okq (⟨"NumberFunctionsModel", "sampleAt", "(IJI)J"⟩, 32) := ⟨⟨by decide +kernel, by decide +kernel⟩, List.mem_of_getElem? (i := 920) (by decide +kernel), List.mem_of_getElem? (i := 1236) (by decide +kernel), List.mem_of_getElem? (i := 1237) (by decide +kernel)⟩
theorem lw_p67 : lw_okq (⟨"NumberFunctionsModel", "decoded", "(IIJI)J"⟩, 32) := ⟨⟨by decide +kernel, by decide +kernel⟩, List.mem_of_getElem? (i := 920) (by decide +kernel), List.mem_of_getElem? (i := 1240) (by decide +kernel), List.mem_of_getElem? (i := 1241) (by decide +kernel)⟩
theorem lw_p68 : lw_okq (⟨"NumberFunctionsModel", "powers", "(IJ)V"⟩, 32) := ⟨⟨by decide +kernel, by decide +kernel⟩, List.mem_of_getElem? (i := 920) (by decide +kernel), List.mem_of_getElem? (i := 1244) (by decide +kernel), List.mem_of_getElem? (i := 1245) (by decide +kernel)⟩
theorem lw_p69 : lw_okq (⟨"NumberFunctionsModel", "program", "(IJ)V"⟩, 32) := ⟨⟨by decide +kernel, by decide +kernel⟩, List.mem_of_getElem? (i := 920) (by decide +kernel), List.mem_of_getElem? (i := 1251) (by decide +kernel), List.mem_of_getElem? (i := 1252) (by decide +kernel)⟩
theorem lw_p70 : lw_okq (⟨"NumberFunctionsModel", "isGood", "()Z"⟩, 32) := ⟨⟨by decide +kernel, by decide +kernel⟩, List.mem_of_getElem? (i := 920) (by decide +kernel), List.mem_of_getElem? (i := 1255) (by decide +kernel), List.mem_of_getElem? (i := 1256) (by decide +kernel)⟩
theorem lw_p71 : lw_okq (⟨"NumberFunctionsModel", "next", "(II)I"⟩, 32) := ⟨⟨by decide +kernel, by decide +kernel⟩, List.mem_of_getElem? (i := 920) (by decide +kernel), List.mem_of_getElem? (i := 1259) (by decide +kernel), List.mem_of_getElem? (i := 1260) (by decide +kernel)⟩
theorem lw_p72 : lw_okq (⟨"NumberFunctionsModel", "choose", "(II)I"⟩, 32) := ⟨⟨by decide +kernel, by decide +kernel⟩, List.mem_of_getElem? (i := 920) (by decide +kernel), List.mem_of_getElem? (i := 1265) (by decide +kernel), List.mem_of_getElem? (i := 1266) (by decide +kernel)⟩
theorem lw_p73 : lw_okq (⟨"NumberFunctionsModel", "matchOf", "(II)I"⟩, 32) := ⟨⟨by decide +kernel, by decide +kernel⟩, List.mem_of_getElem? (i := 920) (by decide +kernel), List.mem_of_getElem? (i := 1269) (by decide +kernel), List.mem_of_getElem? (i := 1270) (by decide +kernel)⟩
theorem lw_p74 : lw_okq (⟨"NumberFunctionsModel", "has", "(I)Z"⟩, 32) := ⟨⟨by decide +kernel, by decide +kernel⟩, List.mem_of_getElem? (i := 920) (by decide +kernel), List.mem_of_getElem? (i := 1273) (by decide +kernel), List.mem_of_getElem? (i := 1274) (by decide +kernel)⟩
theorem lw_p75 : lw_okq (⟨"NumberFunctionsModel", "fail", "(I)V"⟩, 32) := ⟨⟨by decide +kernel, by decide +kernel⟩, List.mem_of_getElem? (i := 920) (by decide +kernel), List.mem_of_getElem? (i := 1277) (by decide +kernel), List.mem_of_getElem? (i := 1278) (by decide +kernel)⟩
theorem lw_p76 : lw_okq (⟨"NumberFunctionsModel", "take", "()J"⟩, 32) := ⟨⟨by decide +kernel, by decide +kernel⟩, List.mem_of_getElem? (i := 920) (by decide +kernel), List.mem_of_getElem? (i := 1281) (by decide +kernel), List.mem_of_getElem? (i := 1282) (by decide +kernel)⟩
theorem lw_p77 : lw_okq (⟨"NumberFunctionsModel", "putNumber", "(J)V"⟩, 32) := ⟨⟨by decide +kernel, by decide +kernel⟩, List.mem_of_getElem? (i := 920) (by decide +kernel), List.mem_of_getElem? (i := 1285) (by decide +kernel), List.mem_of_getElem? (i := 1286) (by decide +kernel)⟩
theorem lw_p78 : lw_okq (⟨"NumberFunctionsModel", "put", "(JZ)V"⟩, 32) := ⟨⟨by decide +kernel, by decide +kernel⟩, List.mem_of_getElem? (i := 920) (by decide +kernel), List.mem_of_getElem? (i := 1289) (by decide +kernel), List.mem_of_getElem? (i := 1290) (by decide +kernel)⟩
theorem lw_p79 : lw_okq (⟨"NumberFunctionsModel", "perform", "(I)V"⟩, 32) := ⟨⟨by decide +kernel, by decide +kernel⟩, List.mem_of_getElem? (i := 920) (by decide +kernel), List.mem_of_getElem? (i := 1293) (by decide +kernel), List.mem_of_getElem? (i := 1294) (by decide +kernel)⟩
def lw_privs_5 : List (MethodName × Nat) := [(⟨"NumberFunctionsModel", "inputOf", "(IJ)J"⟩, 32), (⟨"NumberFunctionsModel", "interpolated", "(III)J"⟩, 32), (⟨"NumberFunctionsModel", "sampleAt", "(IJI)J"⟩, 32), (⟨"NumberFunctionsModel", "decoded", "(IIJI)J"⟩, 32), (⟨"NumberFunctionsModel", "powers", "(IJ)V"⟩, 32), (⟨"NumberFunctionsModel", "program", "(IJ)V"⟩, 32), (⟨"NumberFunctionsModel", "isGood", "()Z"⟩, 32), (⟨"NumberFunctionsModel", "next", "(II)I"⟩, 32), (⟨"NumberFunctionsModel", "choose", "(II)I"⟩, 32), (⟨"NumberFunctionsModel", "matchOf", "(II)I"⟩, 32), (⟨"NumberFunctionsModel", "has", "(I)Z"⟩, 32), (⟨"NumberFunctionsModel", "fail", "(I)V"⟩, 32), (⟨"NumberFunctionsModel", "take", "()J"⟩, 32), (⟨"NumberFunctionsModel", "putNumber", "(J)V"⟩, 32), (⟨"NumberFunctionsModel", "put", "(JZ)V"⟩, 32), (⟨"NumberFunctionsModel", "perform", "(I)V"⟩, 32)]
theorem lw_r5 : ∀ q ∈ lw_privs_5, lw_okq q := List.forall_mem_cons.mpr ⟨lw_p64, List.forall_mem_cons.mpr ⟨lw_p65, List.forall_mem_cons.mpr ⟨lw_p66, List.forall_mem_cons.mpr ⟨lw_p67, List.forall_mem_cons.mpr ⟨lw_p68, List.forall_mem_cons.mpr ⟨lw_p69, List.forall_mem_cons.mpr ⟨lw_p70, List.forall_mem_cons.mpr ⟨lw_p71, List.forall_mem_cons.mpr ⟨lw_p72, List.forall_mem_cons.mpr ⟨lw_p73, List.forall_mem_cons.mpr ⟨lw_p74, List.forall_mem_cons.mpr ⟨lw_p75, List.forall_mem_cons.mpr ⟨lw_p76, List.forall_mem_cons.mpr ⟨lw_p77, List.forall_mem_cons.mpr ⟨lw_p78, List.forall_mem_cons.mpr ⟨lw_p79, fun _ h => absurd h List.not_mem_nil⟩⟩⟩⟩⟩⟩⟩⟩⟩⟩⟩⟩⟩⟩⟩⟩
theorem lw_p80 : lw_okq (⟨"NumberFunctionsModel", "one", "(I)V"⟩, 32) := ⟨⟨by decide +kernel, by decide +kernel⟩, List.mem_of_getElem? (i := 920) (by decide +kernel), List.mem_of_getElem? (i := 1297) (by decide +kernel), List.mem_of_getElem? (i := 1298) (by decide +kernel)⟩
theorem lw_p81 : lw_okq (⟨"NumberFunctionsModel", "areNumbers", "(I)Z"⟩, 32) := ⟨⟨by decide +kernel, by decide +kernel⟩, List.mem_of_getElem? (i := 920) (by decide +kernel), List.mem_of_getElem? (i := 1301) (by decide +kernel), List.mem_of_getElem? (i := 1302) (by decide +kernel)⟩
theorem lw_p82 : lw_okq (⟨"NumberFunctionsModel", "two", "(I)V"⟩, 32) := ⟨⟨by decide +kernel, by decide +kernel⟩, List.mem_of_getElem? (i := 920) (by decide +kernel), List.mem_of_getElem? (i := 1314) (by decide +kernel), List.mem_of_getElem? (i := 1315) (by decide +kernel)⟩
theorem lw_p83 : lw_okq (⟨"NumberFunctionsModel", "areWhole", "(I)Z"⟩, 32) := ⟨⟨by decide +kernel, by decide +kernel⟩, List.mem_of_getElem? (i := 920) (by decide +kernel), List.mem_of_getElem? (i := 1318) (by decide +kernel), List.mem_of_getElem? (i := 1319) (by decide +kernel)⟩
theorem lw_p84 : lw_okq (⟨"NumberFunctionsModel", "compare", "(I)V"⟩, 32) := ⟨⟨by decide +kernel, by decide +kernel⟩, List.mem_of_getElem? (i := 920) (by decide +kernel), List.mem_of_getElem? (i := 1322) (by decide +kernel), List.mem_of_getElem? (i := 1323) (by decide +kernel)⟩
theorem lw_p85 : lw_okq (⟨"NumberFunctionsModel", "putTruth", "(Z)V"⟩, 32) := ⟨⟨by decide +kernel, by decide +kernel⟩, List.mem_of_getElem? (i := 920) (by decide +kernel), List.mem_of_getElem? (i := 1326) (by decide +kernel), List.mem_of_getElem? (i := 1327) (by decide +kernel)⟩
theorem lw_p86 : lw_okq (⟨"NumberFunctionsModel", "bits", "(I)V"⟩, 32) := ⟨⟨by decide +kernel, by decide +kernel⟩, List.mem_of_getElem? (i := 920) (by decide +kernel), List.mem_of_getElem? (i := 1330) (by decide +kernel), List.mem_of_getElem? (i := 1331) (by decide +kernel)⟩
theorem lw_p87 : lw_okq (⟨"NumberFunctionsModel", "join", "(I)V"⟩, 32) := ⟨⟨by decide +kernel, by decide +kernel⟩, List.mem_of_getElem? (i := 920) (by decide +kernel), List.mem_of_getElem? (i := 1334) (by decide +kernel), List.mem_of_getElem? (i := 1335) (by decide +kernel)⟩
theorem lw_p88 : lw_okq (⟨"NumberFunctionsModel", "not", "()V"⟩, 32) := ⟨⟨by decide +kernel, by decide +kernel⟩, List.mem_of_getElem? (i := 920) (by decide +kernel), List.mem_of_getElem? (i := 1341) (by decide +kernel), List.mem_of_getElem? (i := 1342) (by decide +kernel)⟩
theorem lw_p89 : lw_okq (⟨"NumberFunctionsModel", "shift", "()V"⟩, 32) := ⟨⟨by decide +kernel, by decide +kernel⟩, List.mem_of_getElem? (i := 920) (by decide +kernel), List.mem_of_getElem? (i := 1346) (by decide +kernel), List.mem_of_getElem? (i := 1347) (by decide +kernel)⟩
theorem lw_p90 : lw_okq (⟨"NumberFunctionsModel", "move", "(I)V"⟩, 32) := ⟨⟨by decide +kernel, by decide +kernel⟩, List.mem_of_getElem? (i := 920) (by decide +kernel), List.mem_of_getElem? (i := 1352) (by decide +kernel), List.mem_of_getElem? (i := 1353) (by decide +kernel)⟩
theorem lw_p91 : lw_okq (⟨"NumberFunctionsModel", "turn", "(IJ)V"⟩, 32) := ⟨⟨by decide +kernel, by decide +kernel⟩, List.mem_of_getElem? (i := 920) (by decide +kernel), List.mem_of_getElem? (i := 1356) (by decide +kernel), List.mem_of_getElem? (i := 1357) (by decide +kernel)⟩
theorem lw_p92 : lw_okq (⟨"NumberFunctionsModel", "copy", "()V"⟩, 32) := ⟨⟨by decide +kernel, by decide +kernel⟩, List.mem_of_getElem? (i := 920) (by decide +kernel), List.mem_of_getElem? (i := 1360) (by decide +kernel), List.mem_of_getElem? (i := 1361) (by decide +kernel)⟩
theorem lw_p93 : lw_okq (⟨"NumberFunctionsModel", "isAmount", "(I)Z"⟩, 32) := ⟨⟨by decide +kernel, by decide +kernel⟩, List.mem_of_getElem? (i := 920) (by decide +kernel), List.mem_of_getElem? (i := 1364) (by decide +kernel), List.mem_of_getElem? (i := 1365) (by decide +kernel)⟩
theorem lw_p94 : lw_okq (⟨"NumberFunctionsModel", "index", "()V"⟩, 32) := ⟨⟨by decide +kernel, by decide +kernel⟩, List.mem_of_getElem? (i := 920) (by decide +kernel), List.mem_of_getElem? (i := 1369) (by decide +kernel), List.mem_of_getElem? (i := 1370) (by decide +kernel)⟩
theorem lw_p95 : lw_okq (⟨"NumberFunctionsModel", "roll", "()V"⟩, 32) := ⟨⟨by decide +kernel, by decide +kernel⟩, List.mem_of_getElem? (i := 920) (by decide +kernel), List.mem_of_getElem? (i := 1373) (by decide +kernel), List.mem_of_getElem? (i := 1374) (by decide +kernel)⟩
def lw_privs_6 : List (MethodName × Nat) := [(⟨"NumberFunctionsModel", "one", "(I)V"⟩, 32), (⟨"NumberFunctionsModel", "areNumbers", "(I)Z"⟩, 32), (⟨"NumberFunctionsModel", "two", "(I)V"⟩, 32), (⟨"NumberFunctionsModel", "areWhole", "(I)Z"⟩, 32), (⟨"NumberFunctionsModel", "compare", "(I)V"⟩, 32), (⟨"NumberFunctionsModel", "putTruth", "(Z)V"⟩, 32), (⟨"NumberFunctionsModel", "bits", "(I)V"⟩, 32), (⟨"NumberFunctionsModel", "join", "(I)V"⟩, 32), (⟨"NumberFunctionsModel", "not", "()V"⟩, 32), (⟨"NumberFunctionsModel", "shift", "()V"⟩, 32), (⟨"NumberFunctionsModel", "move", "(I)V"⟩, 32), (⟨"NumberFunctionsModel", "turn", "(IJ)V"⟩, 32), (⟨"NumberFunctionsModel", "copy", "()V"⟩, 32), (⟨"NumberFunctionsModel", "isAmount", "(I)Z"⟩, 32), (⟨"NumberFunctionsModel", "index", "()V"⟩, 32), (⟨"NumberFunctionsModel", "roll", "()V"⟩, 32)]
theorem lw_r6 : ∀ q ∈ lw_privs_6, lw_okq q := List.forall_mem_cons.mpr ⟨lw_p80, List.forall_mem_cons.mpr ⟨lw_p81, List.forall_mem_cons.mpr ⟨lw_p82, List.forall_mem_cons.mpr ⟨lw_p83, List.forall_mem_cons.mpr ⟨lw_p84, List.forall_mem_cons.mpr ⟨lw_p85, List.forall_mem_cons.mpr ⟨lw_p86, List.forall_mem_cons.mpr ⟨lw_p87, List.forall_mem_cons.mpr ⟨lw_p88, List.forall_mem_cons.mpr ⟨lw_p89, List.forall_mem_cons.mpr ⟨lw_p90, List.forall_mem_cons.mpr ⟨lw_p91, List.forall_mem_cons.mpr ⟨lw_p92, List.forall_mem_cons.mpr ⟨lw_p93, List.forall_mem_cons.mpr ⟨lw_p94, List.forall_mem_cons.mpr ⟨lw_p95, fun _ h => absurd h List.not_mem_nil⟩⟩⟩⟩⟩⟩⟩⟩⟩⟩⟩⟩⟩⟩⟩⟩
def lw_privs : List (MethodName × Nat) := lw_privs_1 ++ (lw_privs_2 ++ (lw_privs_3 ++ (lw_privs_4 ++ (lw_privs_5 ++ (lw_privs_6)))))
def lw_tbl : List Cond := k2_sels lw_privs ++ tables_1
theorem lw_privs_ok : ∀ q ∈ lw_privs, lw_okq q := by
  show ∀ q ∈ lw_privs_1 ++ (lw_privs_2 ++ (lw_privs_3 ++ (lw_privs_4 ++ (lw_privs_5 ++ (lw_privs_6))))), lw_okq q
  exact List.forall_mem_append.mpr ⟨lw_r1, List.forall_mem_append.mpr ⟨lw_r2, List.forall_mem_append.mpr ⟨lw_r3, List.forall_mem_append.mpr ⟨lw_r4, List.forall_mem_append.mpr ⟨lw_r5, lw_r6⟩⟩⟩⟩⟩
end
section
/-- how many constant cells there are -/
def ax_nC : Nat := 0
end
section
/-! THE LAYER: an abstract heap (a list of cells; a cell's number is its address there), values that name cells by these numbers,
'AW': the machine, at a place of a method's code, over a heap that holds the abstract one, comes to Q; straight stretches of code by computation ('AW.seg') -/
def ax_v (ph : Nat → Nat) : Value → Value
  | .ref k => .ref (ph k)
  | v => v
def ax_o (ph : Nat → Nat) : Option Nat → Option Nat
  | none => none
  | some k => some (ph k)
def ax_a (ph : Nat → Nat) : vp_A → vp_A
  | (n, .inr (.inr (.inr (.inr f)))) => (n, .inr (.inr (.inr (.inr (fun j => ax_o ph (f j))))))
  | a => a
def ax_e (ph ca : Nat → Nat) : va_E → va_E
  | .inl (t, a) => .inl (ca t, ax_a ph a)
  | .inr (ci, fs) => .inr (ci, fs.map (ax_v ph))
/-- (classes' numbers and slots; addresses; array classes' numbers; where new cells begin; the heap at the law's start); the first ax_nC cells are constants, that nobody writes -/
abbrev ax_G : Type := va_G × (Nat → Nat) × (Nat → Nat) × Nat × Heap
/-- the classes; the array types; the static fields (class, name, descriptor, value); the tables' words -/
abbrev ax_V : Type := List vw_C × List FieldType × List (String × String × String × Value) × List Cond
abbrev ax_V.cl (V : ax_V) : List vw_C := V.1
abbrev ax_V.tl (V : ax_V) : List FieldType := V.2.1
abbrev ax_V.zs (V : ax_V) : List (String × String × String × Value) := V.2.2.1
abbrev ax_V.ts (V : ax_V) : List Cond := V.2.2.2
abbrev ax_G.ph (G : ax_G) : Nat → Nat := G.2.1
abbrev ax_G.ca (G : ax_G) : Nat → Nat := G.2.2.1
abbrev ax_G.bs (G : ax_G) : Nat := G.2.2.2.1
abbrev ax_G.H0 (G : ax_G) : Heap := G.2.2.2.2
def ax_H (V : ax_V) (G : ax_G) (h : List va_E) (H : Heap) : Prop :=
  (∀ (k : Nat) (c : va_E), h[k]? = some c → va_at G.1 V.cl (G.ph k, ax_e G.ph G.ca c) H) ∧ ax_nC ≤ h.length ∧ H.size = G.bs + (h.length - ax_nC) ∧ ∀ q : Nat, q < G.bs → H[q]? = G.H0[q]?
def ax_I (G : ax_G) : Prop := (∀ i j : Nat, G.ph i = G.ph j → i = j) ∧ ∀ k : Nat, ax_nC ≤ k → G.ph k = G.bs + (k - ax_nC)
/-- an instance field and its slot -/
def ax_Fd (U : State) (q : String × String × String × Bool) (i : Nat) : Prop := ∃ (cf : ClassId) (kf : Class) (fi : Nat) (fd : Field), U.fieldFound? q.1 q.2.1 q.2.2.1 = some (cf, kf, fi, fd) ∧ fd.slot = i ∧ fd.isStatic = false
theorem ax_Fd.moved {u U : State} {q : String × String × String × Bool} {i : Nat} (hvm : u.vm.Alike U.vm) (h : ax_Fd u q i) : ax_Fd U q i := by
  obtain ⟨cf, kf, fi, fd, hi, hs⟩ := h
  obtain ⟨kf', hi', -⟩ := State.fieldFound?_setVm (s := u) hvm hi
  exact ⟨cf, kf', fi, fd, by simpa only [State.fieldFound?, State.vm_setVm] using hi', hs⟩
def ax_K (V : ax_V) (G : ax_G) (U : State) : Prop :=
  (∀ (c : Nat) (q : vw_C), V.cl[c]? = some q → (∀ k, k < q.2.2 → ax_Fd U (q.2.1 k) (G.1.2 c k)) ∧ ClassAt U q.1 (G.1.1 c)) ∧ (∀ (k : Nat) (ty : FieldType), V.tl[k]? = some ty → ArrOfT U (G.ca k) ty ∧ va_RA U (G.ca k) ty) ∧
  ∀ z ∈ V.zs, va_Z z.1 z.2.1 z.2.2.1 (ax_v G.ph z.2.2.2) (fun q => G.bs ≤ q) U G.H0
theorem ax_K.moved {V : ax_V} {G : ax_G} {u U : State} (hvm : u.vm.Alike U.vm) (h : ax_K V G u) : ax_K V G U :=
  ⟨fun c q hq => ⟨fun k hk => ((h.1 c q hq).1 k hk).moved hvm, classAt_moved hvm (h.1 c q hq).2⟩, fun k ty hk => ⟨arrOfT_moved hvm (h.2.1 k ty hk).1, (h.2.1 k ty hk).2.moved hvm⟩, fun z hz => (h.2.2 z hz).moved hvm⟩
theorem ax_K.u {V : ax_V} {G : ax_G} {U : State} (h : ax_K V G U) {c : Nat} {q : vw_C} (hq : V.cl[c]? = some q) : u_Kn U q.1 q.2.1 q.2.2 (G.1.1 c) (G.1.2 c) :=
  ⟨fun k hk => by
    obtain ⟨cf, kf, fi, fd, hi, hs, -⟩ := (h.1 c q hq).1 k hk
    exact ⟨cf, kf, fi, fd, hi, hs⟩, (h.1 c q hq).2⟩
theorem ax_K.K {V : ax_V} {G : ax_G} {U : State} (h : ax_K V G U) : va_K G.1 V.cl [] U := ⟨fun c q hq => h.u hq, fun k q hq => by simp at hq⟩
theorem ax_K.K1 {V : ax_V} {G : ax_G} {U : State} (h : ax_K V G U) {t : Nat} {ty : FieldType} (ht : V.tl[t]? = some ty) : va_K G.1 V.cl [(G.ca t, ty)] U :=
  ⟨fun c q hq => h.u hq, fun k q hq => by
    have hz : k < 1 := (List.getElem?_eq_some_iff.mp hq).1
    rw [show k = 0 by omega] at hq
    cases hq
    exact h.2.1 t ty ht⟩
theorem ax_P1 {V : ax_V} {G : ax_G} {h : List va_E} {H : Heap} (hH : ax_H V G h H) {k : Nat} {c : va_E} (hk : h[k]? = some c) : va_P G.1 V.cl [(G.ph k, ax_e G.ph G.ca c)] H := fun j q hq => by
  have hz : j < 1 := (List.getElem?_eq_some_iff.mp hq).1
  rw [show j = 0 by omega] at hq
  cases hq
  exact hH.1 k c hk
theorem ax_bsle {G : ax_G} (hI : ax_I G) {a : Nat} (ha : ax_nC ≤ a) : G.bs ≤ G.ph a := by
  rw [hI.2 a ha]
  exact Nat.le_add_right _ _
/-- a cell is written -/
theorem ax_set {V : ax_V} {G : ax_G} {h : List va_E} {H H1 : Heap} (hI : ax_I G) (hH : ax_H V G h H) {k : Nat} {c c' : va_E} (hk : h[k]? = some c) (hna : ax_nC ≤ k) (hat : va_at G.1 V.cl (G.ph k, ax_e G.ph G.ca c') H1) (z : H1.size = H.size) (oq : ∀ q : Nat, q ≠ G.ph k → H1[q]? = H[q]?) : ax_H V G (h.set k c') H1 := by
  have hlt : k < h.length := (List.getElem?_eq_some_iff.mp hk).1
  refine ⟨fun j d hj => ?_, by rw [List.length_set]; exact hH.2.1, by rw [List.length_set, z]; exact hH.2.2.1, fun q hq => ?_⟩
  · by_cases e : j = k
    · subst e
      rw [List.getElem?_set_self hlt] at hj
      cases hj
      exact hat
    · rw [List.getElem?_set_ne (Ne.symm e)] at hj
      exact (hH.1 j d hj).kept (oq _ (fun q => e (hI.1 _ _ q)))
  · rw [oq q (fun e => Nat.not_lt.mpr (ax_bsle hI hna) (e ▸ hq))]
    exact hH.2.2.2 q hq
/-- a cell is made -/
theorem ax_new {V : ax_V} {G : ax_G} {h : List va_E} {H H1 : Heap} (hI : ax_I G) (hH : ax_H V G h H) {c : va_E} (hat : va_at G.1 V.cl (H.size, ax_e G.ph G.ca c) H1) (z : H1.size = H.size + 1) (oq : ∀ q : Nat, q < H.size → H1[q]? = H[q]?) : ax_H V G (h ++ [c]) H1 ∧ G.ph h.length = H.size := by
  have hn : G.ph h.length = H.size := by rw [hI.2 _ hH.2.1, hH.2.2.1]
  refine ⟨⟨fun j d hj => ?_, by rw [List.length_append]; exact Nat.le_trans hH.2.1 (Nat.le_add_right _ _), ?_, fun q hq => ?_⟩, hn⟩
  · rcases Nat.lt_or_ge j h.length with e | e
    · rw [List.getElem?_append_left e] at hj
      have ha := hH.1 j d hj
      exact ha.kept (oq _ ha.lt)
    · rw [List.getElem?_append_right e] at hj
      have hz : j - h.length < 1 := (List.getElem?_eq_some_iff.mp hj).1
      have e2 : j = h.length := by omega
      subst e2
      rw [Nat.sub_self] at hj
      cases hj
      rw [hn]
      exact hat
  · rw [List.length_append, z, hH.2.2.1]
    have := hH.2.1
    show _ = _ + (h.length + 1 - _)
    omega
  · rw [oq q (by rw [hH.2.2.1]; omega)]
    exact hH.2.2.2 q hq
def ax_lv (ph : Nat → Nat) (lv : List (Nat × Value)) : List (Nat × Value) := lv.map (fun q => (q.1, ax_v ph q.2))
theorem ax_cat (ph : Nat → Nat) (v : Value) : (ax_v ph v).category = v.category := by cases v <;> rfl
section AX
variable {p : Program} {l : Launch} {e : Env} {R : Room} {s : State} {m : MethodId} {args : Array Value} {below : List Frame} {meth : Method} {c : Code}
/-- the machine, at 'pc' with these locals and stack, over every heap that holds h, comes to Q -/
def AW (p : Program) (l : Launch) (e : Env) (R : Room) (s : State) (m : MethodId) (args : Array Value) (below : List Frame) (meth : Method) (c : Code) (V : ax_V) (G : ax_G) (nL : Nat) (h : List va_E) (cells slots : Nat) (Q : State → Prop) (pc : Nat) (lv : List (Nat × Value)) (st : List Value) : Prop :=
  ∀ (H : Heap) (locs : List Loc) (ls : Array Slot), ax_H V G h H → (∀ q ∈ locs, G.bs ≤ q.base) → lv_has ls nL (ax_lv G.ph lv) → W p l e R s m args below meth c H locs cells slots Q (F0 m pc ls (st.map (ax_v G.ph)))
/-- which field (its number in class ci's objects) the pool entry 'idx' of the class 'own' names -/
def ax_F (V : ax_V) (own : String) (fl : Nat → Nat → Option Nat) : Prop := ∀ idx ci k : Nat, fl idx ci = some k → ∃ (C : String) (T : u_T) (N : Nat) (ref : String), V.cl[ci]? = some (C, T, N) ∧ k < N ∧ Cond.fieldLink own idx ref (T k).2.1 (T k).2.2.1 ∈ V.ts ∧ (ref = (T k).1 ∨ Cond.sameField ref (T k).1 (T k).2.1 (T k).2.2.1 ∈ V.ts)
theorem ax_same {V : ax_V} {s : State} {args : Array Value} (ht : ∀ w ∈ V.ts, w.before args s = true) {ref o n d : String} (h : ref = o ∨ Cond.sameField ref o n d ∈ V.ts) : ∀ x, s.fieldFound? o n d = some x → s.fieldFound? ref n d = some x := by
  rcases h with rfl | h
  · exact fun _ q => q
  · exact fun x q => u_same (ht _ h) x q
end AX
end
section
/-! STRAIGHT STRETCHES: 'ax_i' does one instruction on locals, stack and abstract heap; 'ax_run' a list of them -/
def ax_l : List (Nat × Value) → Nat → Option Value
  | [], _ => none
  | q :: r, n => bif Nat.beq q.1 n then some q.2 else ax_l r n
theorem ax_l_mem {n : Nat} {v : Value} : ∀ {lv : List (Nat × Value)}, ax_l lv n = some v → (n, v) ∈ lv
  | [], h => by cases h
  | q :: r, h => by
    unfold ax_l at h
    cases hb : Nat.beq q.1 n with
    | true =>
      rw [hb] at h
      have h1 := Nat.eq_of_beq_eq_true hb
      cases h
      subst h1
      exact List.mem_cons_self
    | false =>
      rw [hb] at h
      exact List.mem_cons_of_mem _ (ax_l_mem h)
theorem ax_l_at {ph : Nat → Nat} {ls : Array Slot} {nL n : Nat} {v : Value} {lv : List (Nat × Value)} (h : ax_l lv n = some v) (hv : lv_has ls nL (ax_lv ph lv)) : ls[n]? = some (.val (ax_v ph v)) :=
  hv.2.2 (n, ax_v ph v) (List.mem_map.mpr ⟨(n, v), ax_l_mem h, rfl⟩)
/-- the locals without what a store of one word (two words) at i overwrites -/
def ax_rm {α : Type} (i : Nat) : List (Nat × Value) → (List (Nat × Value) → α) → α
  | [], k => k []
  | q :: r, k => bif (!(q.1 == i) && !(q.1 + 1 == i && q.2.category == 2)) then ax_rm i r (fun r' => k (q :: r')) else ax_rm i r k
def ax_rm2 {α : Type} (i : Nat) : List (Nat × Value) → (List (Nat × Value) → α) → α
  | [], k => k []
  | q :: r, k => bif (!(q.1 == i) && (!(q.1 == i + 1) && !(q.1 + 1 == i && q.2.category == 2))) then ax_rm2 i r (fun r' => k (q :: r')) else ax_rm2 i r k
theorem ax_rm_eq {α : Type} (i : Nat) : ∀ (lv : List (Nat × Value)) (k : List (Nat × Value) → α), ax_rm i lv k = k (lv.filter (fun q => !(q.1 == i) && !(q.1 + 1 == i && q.2.category == 2)))
  | [], k => rfl
  | q :: r, k => by
    unfold ax_rm
    rw [List.filter_cons, ax_rm_eq, ax_rm_eq]
    cases (!(q.1 == i) && !(q.1 + 1 == i && q.2.category == 2)) <;> rfl
theorem ax_rm2_eq {α : Type} (i : Nat) : ∀ (lv : List (Nat × Value)) (k : List (Nat × Value) → α), ax_rm2 i lv k = k (lv.filter (fun q => !(q.1 == i) && (!(q.1 == i + 1) && !(q.1 + 1 == i && q.2.category == 2))))
  | [], k => rfl
  | q :: r, k => by
    unfold ax_rm2
    rw [List.filter_cons, ax_rm2_eq, ax_rm2_eq]
    cases (!(q.1 == i) && (!(q.1 == i + 1) && !(q.1 + 1 == i && q.2.category == 2))) <;> rfl
theorem ax_flt (ph : Nat → Nat) (f : Nat → Nat → Bool) (lv : List (Nat × Value)) : (ax_lv ph lv).filter (fun q => f q.1 q.2.category) = ax_lv ph (lv.filter (fun q => f q.1 q.2.category)) := by
  unfold ax_lv
  rw [List.filter_map]
  congr 1
  apply List.filter_congr
  intro q _
  show f q.1 (ax_v ph q.2).category = _
  rw [ax_cat]
theorem ax_fl1 (ph : Nat → Nat) (i : Nat) (v : Value) (lv : List (Nat × Value)) : (i, ax_v ph v) :: (ax_lv ph lv).filter (fun q => !(q.1 == i) && !(q.1 + 1 == i && q.2.category == 2)) = ax_lv ph ((i, v) :: lv.filter (fun q => !(q.1 == i) && !(q.1 + 1 == i && q.2.category == 2))) :=
  congrArg (List.cons _) (ax_flt ph (fun a b => !(a == i) && !(a + 1 == i && b == 2)) lv)
theorem ax_fl2 (ph : Nat → Nat) (i : Nat) (v : Value) (lv : List (Nat × Value)) : (i, ax_v ph v) :: (ax_lv ph lv).filter (fun q => !(q.1 == i) && (!(q.1 == i + 1) && !(q.1 + 1 == i && q.2.category == 2))) = ax_lv ph ((i, v) :: lv.filter (fun q => !(q.1 == i) && (!(q.1 == i + 1) && !(q.1 + 1 == i && q.2.category == 2)))) :=
  congrArg (List.cons _) (ax_flt ph (fun a b => !(a == i) && (!(a == i + 1) && !(a + 1 == i && b == 2))) lv)
def ax_f4 {α : Type} (i : Fin 4) (k : Nat → α) : α := match i with
  | 0 => k 0
  | 1 => k 1
  | 2 => k 2
  | 3 => k 3
theorem ax_f4_eq {α : Type} (i : Fin 4) (k : Nat → α) : ax_f4 i k = k i.val := by
  match i with
  | 0 => rfl
  | 1 => rfl
  | 2 => rfl
  | 3 => rfl
theorem ax_bif {α : Type} {b : Bool} {x : Option α} {r : α} (h : (bif b then x else none) = some r) : b = true ∧ x = some r := by
  cases b
  · cases h
  · exact ⟨rfl, h⟩
theorem ax_len {α : Type} {len n : Nat} {x : Option α} {r : α} (h : (bif Nat.beq len n then x else none) = some r) : len = n ∧ x = some r :=
  ⟨Nat.eq_of_beq_eq_true (ax_bif h).1, (ax_bif h).2⟩
/-- what a field of this type takes as it stands -/
def ax_fit : FieldType → Value → Bool
  | .int, .int _ => true
  | .long, .long _ => true
  | .object _, .ref _ => true
  | .object _, .null => true
  | .array _, .ref _ => true
  | .array _, .null => true
  | _, _ => false
def ax_i1 {α : Type} (st : List Value) (k : Int32 → List Value → Option α) : Option α := match st with
  | .int x :: r => k x r
  | _ => none
theorem ax_i1_ok {α : Type} {st : List Value} {k : Int32 → List Value → Option α} {z : α} (h : ax_i1 st k = some z) : ∃ (x : Int32) (r : List Value), st = .int x :: r ∧ k x r = some z := by
  unfold ax_i1 at h
  split at h
  · exact ⟨_, _, rfl, h⟩
  · cases h
def ax_ii {α : Type} (st : List Value) (k : Int32 → Int32 → List Value → Option α) : Option α := match st with
  | .int y :: .int x :: r => k x y r
  | _ => none
theorem ax_ii_ok {α : Type} {st : List Value} {k : Int32 → Int32 → List Value → Option α} {z : α} (h : ax_ii st k = some z) : ∃ (x : Int32) (y : Int32) (r : List Value), st = .int y :: .int x :: r ∧ k x y r = some z := by
  unfold ax_ii at h
  split at h
  · exact ⟨_, _, _, rfl, h⟩
  · cases h
def ax_l1 {α : Type} (st : List Value) (k : Int64 → List Value → Option α) : Option α := match st with
  | .long x :: r => k x r
  | _ => none
theorem ax_l1_ok {α : Type} {st : List Value} {k : Int64 → List Value → Option α} {z : α} (h : ax_l1 st k = some z) : ∃ (x : Int64) (r : List Value), st = .long x :: r ∧ k x r = some z := by
  unfold ax_l1 at h
  split at h
  · exact ⟨_, _, rfl, h⟩
  · cases h
def ax_ll {α : Type} (st : List Value) (k : Int64 → Int64 → List Value → Option α) : Option α := match st with
  | .long y :: .long x :: r => k x y r
  | _ => none
theorem ax_ll_ok {α : Type} {st : List Value} {k : Int64 → Int64 → List Value → Option α} {z : α} (h : ax_ll st k = some z) : ∃ (x : Int64) (y : Int64) (r : List Value), st = .long y :: .long x :: r ∧ k x y r = some z := by
  unfold ax_ll at h
  split at h
  · exact ⟨_, _, _, rfl, h⟩
  · cases h
def ax_li {α : Type} (st : List Value) (k : Int64 → Int32 → List Value → Option α) : Option α := match st with
  | .int y :: .long x :: r => k x y r
  | _ => none
theorem ax_li_ok {α : Type} {st : List Value} {k : Int64 → Int32 → List Value → Option α} {z : α} (h : ax_li st k = some z) : ∃ (x : Int64) (y : Int32) (r : List Value), st = .int y :: .long x :: r ∧ k x y r = some z := by
  unfold ax_li at h
  split at h
  · exact ⟨_, _, _, rfl, h⟩
  · cases h
def ax_any {α : Type} (o : Option Value) (k : Value → Option α) : Option α := match o with
  | some v => k v
  | none => none
theorem ax_any_ok {α : Type} {o : Option Value} {k : Value → Option α} {z : α} (h : ax_any o k = some z) : ∃ v, o = some v ∧ k v = some z := by
  unfold ax_any at h
  split at h
  · exact ⟨_, rfl, h⟩
  · cases h
def ax_isI {α : Type} (v : Value) (k : Int32 → Option α) : Option α := match v with
  | .int x => k x
  | _ => none
theorem ax_isI_ok {α : Type} {v : Value} {k : Int32 → Option α} {z : α} (h : ax_isI v k = some z) : ∃ x, v = .int x ∧ k x = some z := by
  unfold ax_isI at h
  split at h
  · exact ⟨_, rfl, h⟩
  · cases h
def ax_isL {α : Type} (v : Value) (k : Int64 → Option α) : Option α := match v with
  | .long x => k x
  | _ => none
theorem ax_isL_ok {α : Type} {v : Value} {k : Int64 → Option α} {z : α} (h : ax_isL v k = some z) : ∃ x, v = .long x ∧ k x = some z := by
  unfold ax_isL at h
  split at h
  · exact ⟨_, rfl, h⟩
  · cases h
/-- a reference or null -/
def ax_isR {α : Type} (v : Value) (kr : Nat → Option α) (kn : Option α) : Option α := match v with
  | .ref x => kr x
  | .null => kn
  | _ => none
theorem ax_isR_ok {α : Type} {v : Value} {kr : Nat → Option α} {kn : Option α} {z : α} (h : ax_isR v kr kn = some z) : (∃ x, v = .ref x ∧ kr x = some z) ∨ (v = .null ∧ kn = some z) := by
  unfold ax_isR at h
  split at h
  · exact Or.inl ⟨_, rfl, h⟩
  · exact Or.inr ⟨rfl, h⟩
  · cases h
def ax_v1 {α : Type} (st : List Value) (k : Value → List Value → Option α) : Option α := match st with
  | v :: r => k v r
  | _ => none
theorem ax_v1_ok {α : Type} {st : List Value} {k : Value → List Value → Option α} {z : α} (h : ax_v1 st k = some z) : ∃ (v : Value) (r : List Value), st = v :: r ∧ k v r = some z := by
  unfold ax_v1 at h
  split at h
  · exact ⟨_, _, rfl, h⟩
  · cases h
def ax_c1 (v : Value) : Bool := match v with
  | .int _ => true
  | .ref _ => true
  | .null => true
  | _ => false
theorem ax_c1_ok {ph : Nat → Nat} {v : Value} (h : ax_c1 v = true) : (ax_v ph v).category = 1 := by
  cases v <;> first | rfl | cases h
def ax_c2 (v : Value) : Bool := match v with
  | .long _ => true
  | _ => false
theorem ax_c2_ok {ph : Nat → Nat} {v : Value} (h : ax_c2 v = true) : (ax_v ph v).category = 2 := by
  cases v <;> first | rfl | cases h
/-- an object, its class's number -/
def ax_ob {α : Type} (o : Option va_E) (k : Nat → List Value → Option α) : Option α := match o with
  | some (.inr q) => k q.1 q.2
  | _ => none
theorem ax_ob_ok {α : Type} {o : Option va_E} {k : Nat → List Value → Option α} {z : α} (h : ax_ob o k = some z) : ∃ ci fs, o = some (.inr (ci, fs)) ∧ k ci fs = some z := by
  unfold ax_ob at h
  split at h
  · exact ⟨_, _, rfl, h⟩
  · cases h
abbrev ax_pool : Type := (Nat → Nat → Option Nat) × (Nat → Option Value) × Bool
def ax_fld {α : Type} (o : Option Nat) (k : Nat → Option α) : Option α := match o with
  | some q => k q
  | none => none
theorem ax_fld_ok {α : Type} {o : Option Nat} {k : Nat → Option α} {z : α} (h : ax_fld o k = some z) : ∃ i, o = some i ∧ k i = some z := by
  unfold ax_fld at h
  split at h
  · exact ⟨_, rfl, h⟩
  · cases h
theorem ax_blt {a b : Nat} (h : Nat.blt a b = true) : a < b := Nat.le_of_ble_eq_true h
def ax_i {α : Type} (nL : Nat) (pl : ax_pool) (q : Instr × Nat) (lv : List (Nat × Value)) (st : List Value) (h : List va_E) (k : List (Nat × Value) → List Value → List va_E → Option α) : Option α :=
  match q.1 with
  | .iconst n => bif Nat.beq q.2 1 then k lv (.int (Int32.ofInt n) :: st) h else none
  | .bipush n => bif Nat.beq q.2 2 then k lv (.int (Int8.ofInt n).toInt32 :: st) h else none
  | .sipush n => bif Nat.beq q.2 3 then k lv (.int (Int16.ofInt n).toInt32 :: st) h else none
  | .lconst n => bif Nat.beq q.2 1 then k lv (.long (Int64.ofNat n.val) :: st) h else none
  | .aconst_null => bif Nat.beq q.2 1 then k lv (.null :: st) h else none
  | .iload_n n => bif Nat.beq q.2 1 then ax_f4 n fun i => ax_any (ax_l lv i) fun v => ax_isI v fun x => k lv (.int x :: st) h else none
  | .iload i => bif Nat.beq q.2 2 then ax_any (ax_l lv i) fun v => ax_isI v fun x => k lv (.int x :: st) h else none
  | .lload_n n => bif Nat.beq q.2 1 then ax_f4 n fun i => ax_any (ax_l lv i) fun v => ax_isL v fun x => k lv (.long x :: st) h else none
  | .lload i => bif Nat.beq q.2 2 then ax_any (ax_l lv i) fun v => ax_isL v fun x => k lv (.long x :: st) h else none
  | .aload_n n => bif Nat.beq q.2 1 then ax_f4 n fun i => ax_any (ax_l lv i) fun v => ax_isR v (fun x => k lv (.ref x :: st) h) (k lv (.null :: st) h) else none
  | .aload i => bif Nat.beq q.2 2 then ax_any (ax_l lv i) fun v => ax_isR v (fun x => k lv (.ref x :: st) h) (k lv (.null :: st) h) else none
  | .istore_n n => bif Nat.beq q.2 1 then ax_f4 n fun i => ax_i1 st fun x r => bif Nat.blt (i) nL then ax_rm i lv (fun lv' => k ((i, .int x) :: lv') r h) else none else none
  | .istore i => bif Nat.beq q.2 2 then ax_i1 st fun x r => bif Nat.blt (i) nL then ax_rm i lv (fun lv' => k ((i, .int x) :: lv') r h) else none else none
  | .lstore_n n => bif Nat.beq q.2 1 then ax_f4 n fun i => ax_l1 st fun x r => bif Nat.blt (i + 1) nL then ax_rm2 i lv (fun lv' => k ((i, .long x) :: lv') r h) else none else none
  | .lstore i => bif Nat.beq q.2 2 then ax_l1 st fun x r => bif Nat.blt (i + 1) nL then ax_rm2 i lv (fun lv' => k ((i, .long x) :: lv') r h) else none else none
  | .astore_n n => bif Nat.beq q.2 1 then ax_f4 n fun i => ax_v1 st fun v r => bif Nat.blt i nL then ax_isR v (fun x => ax_rm i lv (fun lv' => k ((i, .ref x) :: lv') r h)) (ax_rm i lv (fun lv' => k ((i, .null) :: lv') r h)) else none else none
  | .astore i => bif Nat.beq q.2 2 then ax_v1 st fun v r => bif Nat.blt i nL then ax_isR v (fun x => ax_rm i lv (fun lv' => k ((i, .ref x) :: lv') r h)) (ax_rm i lv (fun lv' => k ((i, .null) :: lv') r h)) else none else none
  | .iinc i n => bif Nat.beq q.2 3 then ax_any (ax_l lv i) fun v => ax_isI v fun x => bif Nat.blt i nL then ax_rm i lv (fun lv' => k ((i, .int (x + Int32.ofInt n)) :: lv') st h) else none else none
  | .iadd => bif Nat.beq q.2 1 then ax_ii st fun x y r => k lv (.int (x + y) :: r) h else none
  | .isub => bif Nat.beq q.2 1 then ax_ii st fun x y r => k lv (.int (x - y) :: r) h else none
  | .imul => bif Nat.beq q.2 1 then ax_ii st fun x y r => k lv (.int (x * y) :: r) h else none
  | .iand => bif Nat.beq q.2 1 then ax_ii st fun x y r => k lv (.int (x &&& y) :: r) h else none
  | .ior => bif Nat.beq q.2 1 then ax_ii st fun x y r => k lv (.int (x ||| y) :: r) h else none
  | .ixor => bif Nat.beq q.2 1 then ax_ii st fun x y r => k lv (.int (x ^^^ y) :: r) h else none
  | .ishl => bif Nat.beq q.2 1 then ax_ii st fun x y r => k lv (.int (x <<< (y &&& 31)) :: r) h else none
  | .ishr => bif Nat.beq q.2 1 then ax_ii st fun x y r => k lv (.int (x >>> (y &&& 31)) :: r) h else none
  | .iushr => bif Nat.beq q.2 1 then ax_ii st fun x y r => k lv (.int ((x.toUInt32 >>> (y.toUInt32 &&& Int32.toUInt32 31)).toInt32) :: r) h else none
  | .ineg => bif Nat.beq q.2 1 then ax_i1 st fun x r => k lv (.int (-x) :: r) h else none
  | .ladd => bif Nat.beq q.2 1 then ax_ll st fun x y r => k lv (.long (x + y) :: r) h else none
  | .lsub => bif Nat.beq q.2 1 then ax_ll st fun x y r => k lv (.long (x - y) :: r) h else none
  | .lmul => bif Nat.beq q.2 1 then ax_ll st fun x y r => k lv (.long (x * y) :: r) h else none
  | .land => bif Nat.beq q.2 1 then ax_ll st fun x y r => k lv (.long (x &&& y) :: r) h else none
  | .lor => bif Nat.beq q.2 1 then ax_ll st fun x y r => k lv (.long (x ||| y) :: r) h else none
  | .lxor => bif Nat.beq q.2 1 then ax_ll st fun x y r => k lv (.long (x ^^^ y) :: r) h else none
  | .lneg => bif Nat.beq q.2 1 then ax_l1 st fun x r => k lv (.long (-x) :: r) h else none
  | .lshl => bif Nat.beq q.2 1 then ax_li st fun x y r => k lv (.long (x <<< (y.toInt64 &&& 63)) :: r) h else none
  | .lshr => bif Nat.beq q.2 1 then ax_li st fun x y r => k lv (.long (x >>> (y.toInt64 &&& 63)) :: r) h else none
  | .lushr => bif Nat.beq q.2 1 then ax_li st fun x y r => k lv (.long ((x.toUInt64 >>> (y.toInt64.toUInt64 &&& Int64.toUInt64 63)).toInt64) :: r) h else none
  | .lcmp => bif Nat.beq q.2 1 then ax_ll st fun x y r => k lv (.int (lg_cmp x y) :: r) h else none
  | .i2l => bif Nat.beq q.2 1 then ax_i1 st fun x r => k lv (.long x.toInt64 :: r) h else none
  | .l2i => bif Nat.beq q.2 1 then ax_l1 st fun x r => k lv (.int x.toInt32 :: r) h else none
  | .i2b => bif Nat.beq q.2 1 then ax_i1 st fun x r => k lv (.int x.toInt8.toInt32 :: r) h else none
  | .dup => bif Nat.beq q.2 1 then ax_v1 st fun v r => bif ax_c1 v then k lv (v :: v :: r) h else none else none
  | .pop => bif Nat.beq q.2 1 then ax_v1 st fun v r => bif ax_c1 v then k lv r h else none else none
  | .dup_x1 => bif Nat.beq q.2 1 then ax_v1 st fun v r => ax_v1 r fun u r => bif ax_c1 v && ax_c1 u then k lv (v :: u :: v :: r) h else none else none
  | .dup_x2 => bif Nat.beq q.2 1 then ax_v1 st fun v r => ax_v1 r fun u r => ax_v1 r fun w r => bif ax_c1 v && (ax_c1 u && ax_c1 w) then k lv (v :: u :: w :: v :: r) h else none else none
  | .dup2 => bif Nat.beq q.2 1 then ax_v1 st fun v r => bif ax_c2 v then k lv (v :: v :: r) h else ax_v1 r fun u r => bif ax_c1 v && ax_c1 u then k lv (v :: u :: v :: u :: r) h else none else none
  | .getfield idx => bif Nat.beq q.2 3 then ax_v1 st fun v r => ax_isR v (fun a => ax_ob (h[a]?) fun ci fs => ax_fld (pl.1 idx ci) fun i => ax_any (fs[i]?) fun u => k lv (u :: r) h) none else none
  | .ldc idx => bif Nat.beq q.2 2 then ax_any (pl.2.1 idx) fun v => ax_isI v fun x => k lv (.int x :: st) h else none
  | .ldc2_w idx => bif Nat.beq q.2 3 then ax_any (pl.2.1 idx) fun v => ax_isL v fun x => k lv (.long x :: st) h else none
  | _ => none
def ax_PL (V : ax_V) (own : String) (kl : Nat → Option Value) : Prop := (∀ (idx : Nat) (x : Int32), kl idx = some (.int x) → Cond.constant own idx x ∈ V.ts) ∧ ∀ (idx : Nat) (x : Int64), kl idx = some (.long x) → Cond.constantLong own idx x ∈ V.ts
def ax_X (p : Program) (m : MethodId) (meth : Method) (c : Code) (s : State) (args : Array Value) (V : ax_V) (G : ax_G) (cc : ByteArray) (nL : Nat) (own : String) (pl : ax_pool) (ret : Option FieldType) : Prop :=
  p.tables.exec = Jvm.exec ∧ c.code = cc ∧ c.maxLocals = nL ∧ s.vm.findClass own = some m.cls ∧ (∀ w ∈ V.ts, w.before args s = true) ∧ ax_K V G s ∧ ax_I G ∧ ax_F V own pl.1 ∧ ax_PL V own pl.2.1 ∧ GoodIn V.ts V.ts ∧ meth.locks = false ∧ meth.sig.returnType = ret ∧ (pl.2.2 = true → meth.name = "<init>")
section AXX
variable {p : Program} {s : State} {m : MethodId} {args : Array Value} {meth : Method} {c : Code} {V : ax_V} {G : ax_G} {cc : ByteArray} {nL : Nat} {own : String} {pl : ax_pool} {ret : Option FieldType}
theorem ax_X.x (X : ax_X p m meth c s args V G cc nL own pl ret) : p.tables.exec = Jvm.exec := X.1
theorem ax_X.b (X : ax_X p m meth c s args V G cc nL own pl ret) : c.code = cc := X.2.1
theorem ax_X.ml (X : ax_X p m meth c s args V G cc nL own pl ret) : c.maxLocals = nL := X.2.2.1
theorem ax_X.ow (X : ax_X p m meth c s args V G cc nL own pl ret) : s.vm.findClass own = some m.cls := X.2.2.2.1
theorem ax_X.ts (X : ax_X p m meth c s args V G cc nL own pl ret) : ∀ w ∈ V.ts, w.before args s = true := X.2.2.2.2.1
theorem ax_X.k (X : ax_X p m meth c s args V G cc nL own pl ret) : ax_K V G s := X.2.2.2.2.2.1
theorem ax_X.i (X : ax_X p m meth c s args V G cc nL own pl ret) : ax_I G := X.2.2.2.2.2.2.1
theorem ax_X.f (X : ax_X p m meth c s args V G cc nL own pl ret) : ax_F V own pl.1 := X.2.2.2.2.2.2.2.1
theorem ax_X.pk (X : ax_X p m meth c s args V G cc nL own pl ret) : ax_PL V own pl.2.1 := X.2.2.2.2.2.2.2.2.1
theorem ax_X.gd (X : ax_X p m meth c s args V G cc nL own pl ret) : GoodIn V.ts V.ts := X.2.2.2.2.2.2.2.2.2.1
theorem ax_X.lk (X : ax_X p m meth c s args V G cc nL own pl ret) : meth.locks = false := X.2.2.2.2.2.2.2.2.2.2.1
theorem ax_X.rt (X : ax_X p m meth c s args V G cc nL own pl ret) : meth.sig.returnType = ret := X.2.2.2.2.2.2.2.2.2.2.2.1
theorem ax_X.ini (X : ax_X p m meth c s args V G cc nL own pl ret) : pl.2.2 = true → meth.name = "<init>" := X.2.2.2.2.2.2.2.2.2.2.2.2
end AXX
section AXI
variable {p : Program} {l : Launch} {e : Env} {R : Room} {s : State} {m : MethodId} {args : Array Value} {below : List Frame} {meth : Method} {c : Code} {V : ax_V} {G : ax_G} {cc : ByteArray} {nL : Nat} {own : String} {pl : ax_pool} {ret : Option FieldType} {cells slots : Nat} {Q : State → Prop}
theorem ax_getf (X : ax_X p m meth c s args V G cc nL own pl ret) {pc : Nat} {ls : Array Slot} {rest : List Value} {h : List va_E} {H : Heap} {locs : List Loc} {a ci k idx : Nat} {fs : List Value} {v : Value} (hH : ax_H V G h H) (ha : h[a]? = some (.inr (ci, fs))) (hf : pl.1 idx ci = some k) (hv1 : fs[k]? = some v) (hd : decode cc pc = .ok (.getfield idx, 3))
    (kk : W p l e R s m args below meth c H locs cells slots Q (F0 m (pc + 3) ls (ax_v G.ph v :: rest))) : W p l e R s m args below meth c H locs cells slots Q (F0 m pc ls (.ref (G.ph a) :: rest)) := by
  obtain ⟨C, T, N, ref, h1, h2, h3, h4⟩ := X.f idx ci k hf
  obtain ⟨r', e1, cell, q1, q2, q3, q4⟩ := hH.1 a _ ha
  have hr : r' = (C, T, N) := Option.some.inj (e1.symm.trans h1)
  subst hr
  obtain ⟨cf, kf, fi, f, hi, hsl, hst⟩ := (X.k.1 ci _ h1).1 k h2
  refine W.getf X.x X.b X.ow (X.ts _ h3) (ax_same X.ts h4 _ hi) hst q1 (by rw [q3]; exact fun h => by cases h) (v := ax_v G.ph v) ?_ rfl rfl hd kk
  rw [hsl, q4 k h2]
  simp [vp_V, List.getD_eq_getElem?_getD, hv1]
set_option maxHeartbeats 4000000 in
theorem ax_i_ok {α : Type} (X : ax_X p m meth c s args V G cc nL own pl ret) {pc : Nat} {i : Instr} {len : Nat} (hd : decode cc pc = .ok (i, len)) {lv : List (Nat × Value)} {st : List Value} {h : List va_E} {k : List (Nat × Value) → List Value → List va_E → Option α} {z : α}
    (hi : ax_i nL pl (i, len) lv st h k = some z) (kk : ∀ lv' st' h', k lv' st' h' = some z → AW p l e R s m args below meth c V G nL h' cells slots Q (pc + len) lv' st') : AW p l e R s m args below meth c V G nL h cells slots Q pc lv st := by
  cases i with
  | iconst n =>
    have hi2 := ax_len (show (bif Nat.beq len 1 then _ else none) = some z from hi)
    clear hi
    obtain ⟨e9, hi⟩ := hi2
    subst e9
    intro H locs ls hH hl hv
    exact lv_iconst X.x X.b hd rfl (kk _ _ _ hi H locs ls hH hl hv)
  | bipush n =>
    have hi2 := ax_len (show (bif Nat.beq len 2 then _ else none) = some z from hi)
    clear hi
    obtain ⟨e9, hi⟩ := hi2
    subst e9
    intro H locs ls hH hl hv
    exact lv_bipush X.x X.b hd rfl (kk _ _ _ hi H locs ls hH hl hv)
  | sipush n =>
    have hi2 := ax_len (show (bif Nat.beq len 3 then _ else none) = some z from hi)
    clear hi
    obtain ⟨e9, hi⟩ := hi2
    subst e9
    intro H locs ls hH hl hv
    exact lv_sipush X.x X.b hd rfl (kk _ _ _ hi H locs ls hH hl hv)
  | lconst n =>
    have hi2 := ax_len (show (bif Nat.beq len 1 then _ else none) = some z from hi)
    clear hi
    obtain ⟨e9, hi⟩ := hi2
    subst e9
    intro H locs ls hH hl hv
    exact lv_lconst X.x X.b hd rfl (kk _ _ _ hi H locs ls hH hl hv)
  | aconst_null =>
    have hi2 := ax_len (show (bif Nat.beq len 1 then _ else none) = some z from hi)
    clear hi
    obtain ⟨e9, hi⟩ := hi2
    subst e9
    intro H locs ls hH hl hv
    exact lv_null X.x X.b hd (kk _ _ _ hi H locs ls hH hl hv)
  | iload_n n =>
    have hi2 := ax_len (show (bif Nat.beq len 1 then _ else none) = some z from hi)
    clear hi
    obtain ⟨e9, hi⟩ := hi2
    subst e9
    rw [ax_f4_eq] at hi
    replace hi := ax_any_ok hi
    obtain ⟨v, hv1, hi⟩ := hi
    replace hi := ax_isI_ok hi
    obtain ⟨x, rfl, hi⟩ := hi
    intro H locs ls hH hl hv
    exact lv_iload_n X.x X.b hd rfl (ax_l_at hv1 hv) (kk _ _ _ hi H locs ls hH hl hv)
  | iload i =>
    have hi2 := ax_len (show (bif Nat.beq len 2 then _ else none) = some z from hi)
    clear hi
    obtain ⟨e9, hi⟩ := hi2
    subst e9
    replace hi := ax_any_ok hi
    obtain ⟨v, hv1, hi⟩ := hi
    replace hi := ax_isI_ok hi
    obtain ⟨x, rfl, hi⟩ := hi
    intro H locs ls hH hl hv
    exact lv_iload X.x X.b hd (ax_l_at hv1 hv) (kk _ _ _ hi H locs ls hH hl hv)
  | lload_n n =>
    have hi2 := ax_len (show (bif Nat.beq len 1 then _ else none) = some z from hi)
    clear hi
    obtain ⟨e9, hi⟩ := hi2
    subst e9
    rw [ax_f4_eq] at hi
    replace hi := ax_any_ok hi
    obtain ⟨v, hv1, hi⟩ := hi
    replace hi := ax_isL_ok hi
    obtain ⟨x, rfl, hi⟩ := hi
    intro H locs ls hH hl hv
    exact lv_lload_n X.x X.b hd rfl (ax_l_at hv1 hv) (kk _ _ _ hi H locs ls hH hl hv)
  | lload i =>
    have hi2 := ax_len (show (bif Nat.beq len 2 then _ else none) = some z from hi)
    clear hi
    obtain ⟨e9, hi⟩ := hi2
    subst e9
    replace hi := ax_any_ok hi
    obtain ⟨v, hv1, hi⟩ := hi
    replace hi := ax_isL_ok hi
    obtain ⟨x, rfl, hi⟩ := hi
    intro H locs ls hH hl hv
    exact lv_lload X.x X.b hd (ax_l_at hv1 hv) (kk _ _ _ hi H locs ls hH hl hv)
  | aload_n n =>
    have hi2 := ax_len (show (bif Nat.beq len 1 then _ else none) = some z from hi)
    clear hi
    obtain ⟨e9, hi⟩ := hi2
    subst e9
    rw [ax_f4_eq] at hi
    replace hi := ax_any_ok hi
    obtain ⟨v, hv1, hi⟩ := hi
    replace hi := ax_isR_ok hi
    rcases hi with ⟨x, rfl, hi⟩ | ⟨rfl, hi⟩
    · intro H locs ls hH hl hv
      exact lv_aload_n X.x X.b hd rfl (ax_l_at hv1 hv) (kk _ _ _ hi H locs ls hH hl hv)
    · intro H locs ls hH hl hv
      exact lv_aload_nN X.x X.b hd rfl (ax_l_at hv1 hv) (kk _ _ _ hi H locs ls hH hl hv)
  | aload i =>
    have hi2 := ax_len (show (bif Nat.beq len 2 then _ else none) = some z from hi)
    clear hi
    obtain ⟨e9, hi⟩ := hi2
    subst e9
    replace hi := ax_any_ok hi
    obtain ⟨v, hv1, hi⟩ := hi
    replace hi := ax_isR_ok hi
    rcases hi with ⟨x, rfl, hi⟩ | ⟨rfl, hi⟩
    · intro H locs ls hH hl hv
      exact lv_aload X.x X.b hd (ax_l_at hv1 hv) (kk _ _ _ hi H locs ls hH hl hv)
    · intro H locs ls hH hl hv
      exact lv_aloadN X.x X.b hd (ax_l_at hv1 hv) (kk _ _ _ hi H locs ls hH hl hv)
  | istore_n n =>
    have hi2 := ax_len (show (bif Nat.beq len 1 then _ else none) = some z from hi)
    clear hi
    obtain ⟨e9, hi⟩ := hi2
    subst e9
    rw [ax_f4_eq] at hi
    replace hi := ax_i1_ok hi
    obtain ⟨x, r, rfl, hi⟩ := hi
    replace hi := ax_bif hi
    obtain ⟨h2, hi⟩ := hi
    rw [ax_rm_eq] at hi
    intro H locs ls hH hl hv
    exact lv_istore_n X.x X.b hd rfl hv (ax_blt h2) (ax_fl1 G.ph _ (.int x) lv) (fun ls hv => (kk _ _ _ hi H locs ls hH hl hv))
  | istore i =>
    have hi2 := ax_len (show (bif Nat.beq len 2 then _ else none) = some z from hi)
    clear hi
    obtain ⟨e9, hi⟩ := hi2
    subst e9
    replace hi := ax_i1_ok hi
    obtain ⟨x, r, rfl, hi⟩ := hi
    replace hi := ax_bif hi
    obtain ⟨h2, hi⟩ := hi
    rw [ax_rm_eq] at hi
    intro H locs ls hH hl hv
    exact lv_istore X.x X.b hd hv (ax_blt h2) (ax_fl1 G.ph _ (.int x) lv) (fun ls hv => (kk _ _ _ hi H locs ls hH hl hv))
  | lstore_n n =>
    have hi2 := ax_len (show (bif Nat.beq len 1 then _ else none) = some z from hi)
    clear hi
    obtain ⟨e9, hi⟩ := hi2
    subst e9
    rw [ax_f4_eq] at hi
    replace hi := ax_l1_ok hi
    obtain ⟨x, r, rfl, hi⟩ := hi
    replace hi := ax_bif hi
    obtain ⟨h2, hi⟩ := hi
    rw [ax_rm2_eq] at hi
    intro H locs ls hH hl hv
    exact lv_lstore_n X.x X.b hd rfl hv (ax_blt h2) (ax_fl2 G.ph _ (.long x) lv) (fun ls hv => (kk _ _ _ hi H locs ls hH hl hv))
  | lstore i =>
    have hi2 := ax_len (show (bif Nat.beq len 2 then _ else none) = some z from hi)
    clear hi
    obtain ⟨e9, hi⟩ := hi2
    subst e9
    replace hi := ax_l1_ok hi
    obtain ⟨x, r, rfl, hi⟩ := hi
    replace hi := ax_bif hi
    obtain ⟨h2, hi⟩ := hi
    rw [ax_rm2_eq] at hi
    intro H locs ls hH hl hv
    exact lv_lstore X.x X.b hd hv (ax_blt h2) (ax_fl2 G.ph _ (.long x) lv) (fun ls hv => (kk _ _ _ hi H locs ls hH hl hv))
  | astore_n n =>
    have hi2 := ax_len (show (bif Nat.beq len 1 then _ else none) = some z from hi)
    clear hi
    obtain ⟨e9, hi⟩ := hi2
    subst e9
    rw [ax_f4_eq] at hi
    replace hi := ax_v1_ok hi
    obtain ⟨v, r, rfl, hi⟩ := hi
    replace hi := ax_bif hi
    obtain ⟨h2, hi⟩ := hi
    replace hi := ax_isR_ok hi
    rcases hi with ⟨x, rfl, hi⟩ | ⟨rfl, hi⟩
    · replace hi := (ax_rm_eq _ _ _).symm.trans hi
      intro H locs ls hH hl hv
      exact lv_astore_n X.x X.b hd rfl hv (ax_blt h2) (ax_fl1 G.ph _ (.ref x) lv) (fun ls hv => (kk _ _ _ hi H locs ls hH hl hv))
    · rw [ax_rm_eq] at hi
      intro H locs ls hH hl hv
      exact lv_astore_nN X.x X.b hd rfl hv (ax_blt h2) (ax_fl1 G.ph _ .null lv) (fun ls hv => (kk _ _ _ hi H locs ls hH hl hv))
  | astore i =>
    have hi2 := ax_len (show (bif Nat.beq len 2 then _ else none) = some z from hi)
    clear hi
    obtain ⟨e9, hi⟩ := hi2
    subst e9
    replace hi := ax_v1_ok hi
    obtain ⟨v, r, rfl, hi⟩ := hi
    replace hi := ax_bif hi
    obtain ⟨h2, hi⟩ := hi
    replace hi := ax_isR_ok hi
    rcases hi with ⟨x, rfl, hi⟩ | ⟨rfl, hi⟩
    · replace hi := (ax_rm_eq _ _ _).symm.trans hi
      intro H locs ls hH hl hv
      exact lv_astore X.x X.b hd hv (ax_blt h2) (ax_fl1 G.ph _ (.ref x) lv) (fun ls hv => (kk _ _ _ hi H locs ls hH hl hv))
    · rw [ax_rm_eq] at hi
      intro H locs ls hH hl hv
      exact lv_astoreN X.x X.b hd hv (ax_blt h2) (ax_fl1 G.ph _ .null lv) (fun ls hv => (kk _ _ _ hi H locs ls hH hl hv))
  | iinc i n =>
    have hi2 := ax_len (show (bif Nat.beq len 3 then _ else none) = some z from hi)
    clear hi
    obtain ⟨e9, hi⟩ := hi2
    subst e9
    replace hi := ax_any_ok hi
    obtain ⟨v, hv1, hi⟩ := hi
    replace hi := ax_isI_ok hi
    obtain ⟨x, rfl, hi⟩ := hi
    replace hi := ax_bif hi
    obtain ⟨h2, hi⟩ := hi
    rw [ax_rm_eq] at hi
    intro H locs ls hH hl hv
    obtain ⟨q, hq⟩ := List.getElem?_of_mem (List.mem_map.mpr ⟨_, ax_l_mem hv1, rfl⟩ : (i, ax_v G.ph (.int x)) ∈ ax_lv G.ph lv)
    exact lv_iinc (k := q) X.x X.b hd hv hq rfl (ax_blt h2) (ax_fl1 G.ph _ (.int (x + Int32.ofInt n)) lv) (fun ls hv => (kk _ _ _ hi H locs ls hH hl hv))
  | iadd =>
    have hi2 := ax_len (show (bif Nat.beq len 1 then _ else none) = some z from hi)
    clear hi
    obtain ⟨e9, hi⟩ := hi2
    subst e9
    replace hi := ax_ii_ok hi
    obtain ⟨x, y, r, rfl, hi⟩ := hi
    intro H locs ls hH hl hv
    exact lv_iadd X.x X.b hd (kk _ _ _ hi H locs ls hH hl hv)
  | isub =>
    have hi2 := ax_len (show (bif Nat.beq len 1 then _ else none) = some z from hi)
    clear hi
    obtain ⟨e9, hi⟩ := hi2
    subst e9
    replace hi := ax_ii_ok hi
    obtain ⟨x, y, r, rfl, hi⟩ := hi
    intro H locs ls hH hl hv
    exact lv_isub X.x X.b hd (kk _ _ _ hi H locs ls hH hl hv)
  | imul =>
    have hi2 := ax_len (show (bif Nat.beq len 1 then _ else none) = some z from hi)
    clear hi
    obtain ⟨e9, hi⟩ := hi2
    subst e9
    replace hi := ax_ii_ok hi
    obtain ⟨x, y, r, rfl, hi⟩ := hi
    intro H locs ls hH hl hv
    exact lv_imul X.x X.b hd (kk _ _ _ hi H locs ls hH hl hv)
  | iand =>
    have hi2 := ax_len (show (bif Nat.beq len 1 then _ else none) = some z from hi)
    clear hi
    obtain ⟨e9, hi⟩ := hi2
    subst e9
    replace hi := ax_ii_ok hi
    obtain ⟨x, y, r, rfl, hi⟩ := hi
    intro H locs ls hH hl hv
    exact lv_iand X.x X.b hd (kk _ _ _ hi H locs ls hH hl hv)
  | ior =>
    have hi2 := ax_len (show (bif Nat.beq len 1 then _ else none) = some z from hi)
    clear hi
    obtain ⟨e9, hi⟩ := hi2
    subst e9
    replace hi := ax_ii_ok hi
    obtain ⟨x, y, r, rfl, hi⟩ := hi
    intro H locs ls hH hl hv
    exact lv_ior X.x X.b hd (kk _ _ _ hi H locs ls hH hl hv)
  | ixor =>
    have hi2 := ax_len (show (bif Nat.beq len 1 then _ else none) = some z from hi)
    clear hi
    obtain ⟨e9, hi⟩ := hi2
    subst e9
    replace hi := ax_ii_ok hi
    obtain ⟨x, y, r, rfl, hi⟩ := hi
    intro H locs ls hH hl hv
    exact lv_ixor X.x X.b hd (kk _ _ _ hi H locs ls hH hl hv)
  | ishl =>
    have hi2 := ax_len (show (bif Nat.beq len 1 then _ else none) = some z from hi)
    clear hi
    obtain ⟨e9, hi⟩ := hi2
    subst e9
    replace hi := ax_ii_ok hi
    obtain ⟨x, y, r, rfl, hi⟩ := hi
    intro H locs ls hH hl hv
    exact lv_ishl X.x X.b hd (kk _ _ _ hi H locs ls hH hl hv)
  | ishr =>
    have hi2 := ax_len (show (bif Nat.beq len 1 then _ else none) = some z from hi)
    clear hi
    obtain ⟨e9, hi⟩ := hi2
    subst e9
    replace hi := ax_ii_ok hi
    obtain ⟨x, y, r, rfl, hi⟩ := hi
    intro H locs ls hH hl hv
    exact lv_ishr X.x X.b hd (kk _ _ _ hi H locs ls hH hl hv)
  | iushr =>
    have hi2 := ax_len (show (bif Nat.beq len 1 then _ else none) = some z from hi)
    clear hi
    obtain ⟨e9, hi⟩ := hi2
    subst e9
    replace hi := ax_ii_ok hi
    obtain ⟨x, y, r, rfl, hi⟩ := hi
    intro H locs ls hH hl hv
    exact lv_iushr X.x X.b hd rfl (kk _ _ _ hi H locs ls hH hl hv)
  | ineg =>
    have hi2 := ax_len (show (bif Nat.beq len 1 then _ else none) = some z from hi)
    clear hi
    obtain ⟨e9, hi⟩ := hi2
    subst e9
    replace hi := ax_i1_ok hi
    obtain ⟨x, r, rfl, hi⟩ := hi
    intro H locs ls hH hl hv
    exact lv_ineg X.x X.b hd (kk _ _ _ hi H locs ls hH hl hv)
  | ladd =>
    have hi2 := ax_len (show (bif Nat.beq len 1 then _ else none) = some z from hi)
    clear hi
    obtain ⟨e9, hi⟩ := hi2
    subst e9
    replace hi := ax_ll_ok hi
    obtain ⟨x, y, r, rfl, hi⟩ := hi
    intro H locs ls hH hl hv
    exact lv_ladd X.x X.b hd (kk _ _ _ hi H locs ls hH hl hv)
  | lsub =>
    have hi2 := ax_len (show (bif Nat.beq len 1 then _ else none) = some z from hi)
    clear hi
    obtain ⟨e9, hi⟩ := hi2
    subst e9
    replace hi := ax_ll_ok hi
    obtain ⟨x, y, r, rfl, hi⟩ := hi
    intro H locs ls hH hl hv
    exact lv_lsub X.x X.b hd (kk _ _ _ hi H locs ls hH hl hv)
  | lmul =>
    have hi2 := ax_len (show (bif Nat.beq len 1 then _ else none) = some z from hi)
    clear hi
    obtain ⟨e9, hi⟩ := hi2
    subst e9
    replace hi := ax_ll_ok hi
    obtain ⟨x, y, r, rfl, hi⟩ := hi
    intro H locs ls hH hl hv
    exact lv_lmul X.x X.b hd (kk _ _ _ hi H locs ls hH hl hv)
  | land =>
    have hi2 := ax_len (show (bif Nat.beq len 1 then _ else none) = some z from hi)
    clear hi
    obtain ⟨e9, hi⟩ := hi2
    subst e9
    replace hi := ax_ll_ok hi
    obtain ⟨x, y, r, rfl, hi⟩ := hi
    intro H locs ls hH hl hv
    exact lv_land X.x X.b hd (kk _ _ _ hi H locs ls hH hl hv)
  | lor =>
    have hi2 := ax_len (show (bif Nat.beq len 1 then _ else none) = some z from hi)
    clear hi
    obtain ⟨e9, hi⟩ := hi2
    subst e9
    replace hi := ax_ll_ok hi
    obtain ⟨x, y, r, rfl, hi⟩ := hi
    intro H locs ls hH hl hv
    exact lv_lor X.x X.b hd (kk _ _ _ hi H locs ls hH hl hv)
  | lxor =>
    have hi2 := ax_len (show (bif Nat.beq len 1 then _ else none) = some z from hi)
    clear hi
    obtain ⟨e9, hi⟩ := hi2
    subst e9
    replace hi := ax_ll_ok hi
    obtain ⟨x, y, r, rfl, hi⟩ := hi
    intro H locs ls hH hl hv
    exact lv_lxor X.x X.b hd (kk _ _ _ hi H locs ls hH hl hv)
  | lneg =>
    have hi2 := ax_len (show (bif Nat.beq len 1 then _ else none) = some z from hi)
    clear hi
    obtain ⟨e9, hi⟩ := hi2
    subst e9
    replace hi := ax_l1_ok hi
    obtain ⟨x, r, rfl, hi⟩ := hi
    intro H locs ls hH hl hv
    exact lv_lneg X.x X.b hd (kk _ _ _ hi H locs ls hH hl hv)
  | lshl =>
    have hi2 := ax_len (show (bif Nat.beq len 1 then _ else none) = some z from hi)
    clear hi
    obtain ⟨e9, hi⟩ := hi2
    subst e9
    replace hi := ax_li_ok hi
    obtain ⟨x, y, r, rfl, hi⟩ := hi
    intro H locs ls hH hl hv
    exact lv_lshl X.x X.b hd rfl (kk _ _ _ hi H locs ls hH hl hv)
  | lshr =>
    have hi2 := ax_len (show (bif Nat.beq len 1 then _ else none) = some z from hi)
    clear hi
    obtain ⟨e9, hi⟩ := hi2
    subst e9
    replace hi := ax_li_ok hi
    obtain ⟨x, y, r, rfl, hi⟩ := hi
    intro H locs ls hH hl hv
    exact lv_lshr X.x X.b hd rfl (kk _ _ _ hi H locs ls hH hl hv)
  | lushr =>
    have hi2 := ax_len (show (bif Nat.beq len 1 then _ else none) = some z from hi)
    clear hi
    obtain ⟨e9, hi⟩ := hi2
    subst e9
    replace hi := ax_li_ok hi
    obtain ⟨x, y, r, rfl, hi⟩ := hi
    intro H locs ls hH hl hv
    exact lv_lushr X.x X.b hd rfl (kk _ _ _ hi H locs ls hH hl hv)
  | lcmp =>
    have hi2 := ax_len (show (bif Nat.beq len 1 then _ else none) = some z from hi)
    clear hi
    obtain ⟨e9, hi⟩ := hi2
    subst e9
    replace hi := ax_ll_ok hi
    obtain ⟨x, y, r, rfl, hi⟩ := hi
    intro H locs ls hH hl hv
    exact W.lcmp X.x X.b hd (kk _ _ _ hi H locs ls hH hl hv)
  | i2l =>
    have hi2 := ax_len (show (bif Nat.beq len 1 then _ else none) = some z from hi)
    clear hi
    obtain ⟨e9, hi⟩ := hi2
    subst e9
    replace hi := ax_i1_ok hi
    obtain ⟨x, r, rfl, hi⟩ := hi
    intro H locs ls hH hl hv
    exact lv_i2l X.x X.b hd rfl (kk _ _ _ hi H locs ls hH hl hv)
  | l2i =>
    have hi2 := ax_len (show (bif Nat.beq len 1 then _ else none) = some z from hi)
    clear hi
    obtain ⟨e9, hi⟩ := hi2
    subst e9
    replace hi := ax_l1_ok hi
    obtain ⟨x, r, rfl, hi⟩ := hi
    intro H locs ls hH hl hv
    exact lv_l2i X.x X.b hd rfl (kk _ _ _ hi H locs ls hH hl hv)
  | i2b =>
    have hi2 := ax_len (show (bif Nat.beq len 1 then _ else none) = some z from hi)
    clear hi
    obtain ⟨e9, hi⟩ := hi2
    subst e9
    replace hi := ax_i1_ok hi
    obtain ⟨x, r, rfl, hi⟩ := hi
    intro H locs ls hH hl hv
    exact lv_i2b X.x X.b hd rfl (kk _ _ _ hi H locs ls hH hl hv)
  | dup =>
    have hi2 := ax_len (show (bif Nat.beq len 1 then _ else none) = some z from hi)
    clear hi
    obtain ⟨e9, hi⟩ := hi2
    subst e9
    replace hi := ax_v1_ok hi
    obtain ⟨v, r, rfl, hi⟩ := hi
    replace hi := ax_bif hi
    obtain ⟨h2, hi⟩ := hi
    intro H locs ls hH hl hv
    exact lv_dup X.x X.b hd (ax_c1_ok h2) (kk _ _ _ hi H locs ls hH hl hv)
  | pop =>
    have hi2 := ax_len (show (bif Nat.beq len 1 then _ else none) = some z from hi)
    clear hi
    obtain ⟨e9, hi⟩ := hi2
    subst e9
    replace hi := ax_v1_ok hi
    obtain ⟨v, r, rfl, hi⟩ := hi
    replace hi := ax_bif hi
    obtain ⟨h2, hi⟩ := hi
    intro H locs ls hH hl hv
    exact lv_pop X.x X.b hd (ax_c1_ok h2) (kk _ _ _ hi H locs ls hH hl hv)
  | dup_x1 =>
    have hi2 := ax_len (show (bif Nat.beq len 1 then _ else none) = some z from hi)
    clear hi
    obtain ⟨e9, hi⟩ := hi2
    subst e9
    replace hi := ax_v1_ok hi
    obtain ⟨v, r, rfl, hi⟩ := hi
    replace hi := ax_v1_ok hi
    obtain ⟨u, r, rfl, hi⟩ := hi
    replace hi := ax_bif hi
    obtain ⟨h2, hi⟩ := hi
    rw [Bool.and_eq_true] at h2
    intro H locs ls hH hl hv
    exact lv_dup_x1 X.x X.b hd (ax_c1_ok h2.1) (ax_c1_ok h2.2) (kk _ _ _ hi H locs ls hH hl hv)
  | dup_x2 =>
    have hi2 := ax_len (show (bif Nat.beq len 1 then _ else none) = some z from hi)
    clear hi
    obtain ⟨e9, hi⟩ := hi2
    subst e9
    replace hi := ax_v1_ok hi
    obtain ⟨v, r, rfl, hi⟩ := hi
    replace hi := ax_v1_ok hi
    obtain ⟨u, r, rfl, hi⟩ := hi
    replace hi := ax_v1_ok hi
    obtain ⟨w, r, rfl, hi⟩ := hi
    replace hi := ax_bif hi
    obtain ⟨h2, hi⟩ := hi
    rw [Bool.and_eq_true, Bool.and_eq_true] at h2
    intro H locs ls hH hl hv
    exact lv_dup_x2 X.x X.b hd (ax_c1_ok h2.1) (ax_c1_ok h2.2.1) (ax_c1_ok h2.2.2) (kk _ _ _ hi H locs ls hH hl hv)
  | dup2 =>
    have hi2 := ax_len (show (bif Nat.beq len 1 then _ else none) = some z from hi)
    clear hi
    obtain ⟨e9, hi⟩ := hi2
    subst e9
    replace hi := ax_v1_ok hi
    obtain ⟨v, r, rfl, hi⟩ := hi
    cases h2 : ax_c2 v with
    | true =>
      rw [h2] at hi
      intro H locs ls hH hl hv
      exact lv_dup2_2 X.x X.b hd (ax_c2_ok h2) (kk _ _ _ hi H locs ls hH hl hv)
    | false =>
      rw [h2] at hi
      replace hi := ax_v1_ok hi
      obtain ⟨u, r, rfl, hi⟩ := hi
      replace hi := ax_bif hi
      obtain ⟨h3, hi⟩ := hi
      rw [Bool.and_eq_true] at h3
      intro H locs ls hH hl hv
      exact lv_dup2_11 X.x X.b hd (ax_c1_ok h3.1) (ax_c1_ok h3.2) (kk _ _ _ hi H locs ls hH hl hv)
  | getfield idx =>
    have hi2 := ax_len (show (bif Nat.beq len 3 then _ else none) = some z from hi)
    clear hi
    obtain ⟨e9, hi⟩ := hi2
    subst e9
    replace hi := ax_v1_ok hi
    obtain ⟨v, r, rfl, hi⟩ := hi
    replace hi := ax_isR_ok hi
    rcases hi with ⟨a, rfl, hi⟩ | ⟨rfl, hi⟩
    · replace hi := ax_ob_ok hi
      obtain ⟨ci, fs, ho, hi⟩ := hi
      replace hi := ax_fld_ok hi
      obtain ⟨i, hf, hi⟩ := hi
      replace hi := ax_any_ok hi
      obtain ⟨u, hu, hi⟩ := hi
      intro H locs ls hH hl hv
      exact ax_getf X hH ho hf hu hd (kk _ _ _ hi H locs ls hH hl hv)
    · cases hi
  | ldc idx =>
    have hi2 := ax_len (show (bif Nat.beq len 2 then _ else none) = some z from hi)
    clear hi
    obtain ⟨e9, hi⟩ := hi2
    subst e9
    replace hi := ax_any_ok hi
    obtain ⟨v, hv1, hi⟩ := hi
    replace hi := ax_isI_ok hi
    obtain ⟨x, rfl, hi⟩ := hi
    intro H locs ls hH hl hv
    exact lv_ldc X.x X.b X.ow (X.ts _ (X.pk.1 idx x hv1)) hd (kk _ _ _ hi H locs ls hH hl hv)
  | ldc2_w idx =>
    have hi2 := ax_len (show (bif Nat.beq len 3 then _ else none) = some z from hi)
    clear hi
    obtain ⟨e9, hi⟩ := hi2
    subst e9
    replace hi := ax_any_ok hi
    obtain ⟨v, hv1, hi⟩ := hi
    replace hi := ax_isL_ok hi
    obtain ⟨x, rfl, hi⟩ := hi
    intro H locs ls hH hl hv
    exact lv_ldc2 X.x X.b X.ow (X.ts _ (X.pk.2 idx x hv1)) hd (kk _ _ _ hi H locs ls hH hl hv)
  | _ => exact absurd hi (fun q => by cases q)
def ax_run (nL : Nat) (pl : ax_pool) : List (Instr × Nat) → List (Nat × Value) → List Value → List va_E → Option (List (Nat × Value) × List Value × List va_E)
  | [], lv, st, h => some (lv, st, h)
  | q :: r, lv, st, h => ax_i nL pl q lv st h (fun lv st h => ax_run nL pl r lv st h)
/-- these instructions lie at pc, and end before pc' -/
def ax_sg (cc : ByteArray) : Nat → Nat → List (Instr × Nat) → Prop
  | pc, pc', [] => pc = pc'
  | pc, pc', q :: r => decode cc pc = .ok q ∧ ax_sg cc (pc + q.2) pc' r
theorem AW.seg (X : ax_X p m meth c s args V G cc nL own pl ret) {lv' : List (Nat × Value)} {st' : List Value} {h' : List va_E} : ∀ {is : List (Instr × Nat)} {pc pc' : Nat} {lv : List (Nat × Value)} {st : List Value} {h : List va_E}, ax_sg cc pc pc' is → ax_run nL pl is lv st h = some (lv', st', h') →
    AW p l e R s m args below meth c V G nL h' cells slots Q pc' lv' st' → AW p l e R s m args below meth c V G nL h cells slots Q pc lv st
  | [], pc, pc', lv, st, h, hs, hr, kk => by
    cases hs
    cases hr
    exact kk
  | q :: r, pc, pc', lv, st, h, hs, hr, kk => by
    obtain ⟨i, len⟩ := q
    exact ax_i_ok X hs.1 hr (fun lv1 st1 h1 h2 => AW.seg X hs.2 h2 kk)
end AXI
end
section
/-! RULES: branches, arrays, fields, new cells, calls, ends -/
section AXR
variable {p : Program} {l : Launch} {e : Env} {R : Room} {s : State} {m : MethodId} {args : Array Value} {below : List Frame} {meth : Method} {c : Code} {V : ax_V} {G : ax_G} {cc : ByteArray} {nL : Nat} {own : String} {pl : ax_pool} {ret : Option FieldType} {cells slots : Nat} {Q : State → Prop}
variable {pc : Nat} {lv : List (Nat × Value)} {r : List Value} {h : List va_E}
theorem AW.goto (X : ax_X p m meth c s args V G cc nL own pl ret) {off : Int} {tgt : Nat} (hd : decode cc pc = .ok (.goto off, 3)) (ht : (pc : Int) + off = (tgt : Int)) (k : AW p l e R s m args below meth c V G nL h cells slots Q tgt lv r) : AW p l e R s m args below meth c V G nL h cells slots Q pc lv r := by
  intro H locs ls hH hl hv
  exact lv_goto X.x X.b hd ht (k H locs ls hH hl hv)
theorem AW.ifnull (X : ax_X p m meth c s args V G cc nL own pl ret) {a : Nat} {off : Int} (hd : decode cc pc = .ok (.ifnull off, 3)) (k : AW p l e R s m args below meth c V G nL h cells slots Q (pc + 3) lv r) : AW p l e R s m args below meth c V G nL h cells slots Q pc lv (.ref a :: r) := by
  intro H locs ls hH hl hv
  exact lv_ifnull X.x X.b hd (k H locs ls hH hl hv)
theorem AW.ifnullN (X : ax_X p m meth c s args V G cc nL own pl ret) {off : Int} {tgt : Nat} (hd : decode cc pc = .ok (.ifnull off, 3)) (ht : (pc : Int) + off = (tgt : Int)) (k : AW p l e R s m args below meth c V G nL h cells slots Q tgt lv r) : AW p l e R s m args below meth c V G nL h cells slots Q pc lv (.null :: r) := by
  intro H locs ls hH hl hv
  exact lv_ifnullN X.x X.b hd ht (k H locs ls hH hl hv)
theorem AW.ifnonnull (X : ax_X p m meth c s args V G cc nL own pl ret) {a : Nat} {off : Int} {tgt : Nat} (hd : decode cc pc = .ok (.ifnonnull off, 3)) (ht : (pc : Int) + off = (tgt : Int)) (k : AW p l e R s m args below meth c V G nL h cells slots Q tgt lv r) : AW p l e R s m args below meth c V G nL h cells slots Q pc lv (.ref a :: r) := by
  intro H locs ls hH hl hv
  exact lv_ifnonnull X.x X.b hd ht (k H locs ls hH hl hv)
theorem AW.ifnonnullN (X : ax_X p m meth c s args V G cc nL own pl ret) {off : Int} (hd : decode cc pc = .ok (.ifnonnull off, 3)) (k : AW p l e R s m args below meth c V G nL h cells slots Q (pc + 3) lv r) : AW p l e R s m args below meth c V G nL h cells slots Q pc lv (.null :: r) := by
  intro H locs ls hH hl hv
  exact lv_ifnonnullN X.x X.b hd (k H locs ls hH hl hv)
theorem ax_oi {ph : Nat → Nat} (hi : ∀ i j : Nat, ph i = ph j → i = j) {x y : Option Nat} : ax_o ph x = ax_o ph y ↔ x = y := by
  cases x <;> cases y <;> simp [ax_o]
  exact ⟨hi _ _, fun e => by rw [e]⟩
theorem ax_rf (ph : Nat → Nat) (x : Option Nat) : ax_v ph (va_rf x) = va_rf (ax_o ph x) := by cases x <;> rfl
theorem AW.acmp_eq (X : ax_X p m meth c s args V G cc nL own pl ret) (rx ry : Option Nat) {off : Int} {tgt : Nat} (hd : decode cc pc = .ok (.if_acmp .eq off, 3)) (ht : (pc : Int) + off = (tgt : Int)) (kt : rx = ry → AW p l e R s m args below meth c V G nL h cells slots Q tgt lv r) (kf : ¬ rx = ry → AW p l e R s m args below meth c V G nL h cells slots Q (pc + 3) lv r) : AW p l e R s m args below meth c V G nL h cells slots Q pc lv (va_rf ry :: va_rf rx :: r) := by
  intro H locs ls hH hl hv
  rw [List.map_cons, List.map_cons, ax_rf, ax_rf]
  exact lv_acmp_eq X.x X.b hd ht (fun q => kt ((ax_oi X.i.1).mp q) H locs ls hH hl hv) (fun q => kf (fun z => q ((ax_oi X.i.1).mpr z)) H locs ls hH hl hv)
theorem AW.acmp_ne (X : ax_X p m meth c s args V G cc nL own pl ret) (rx ry : Option Nat) {off : Int} {tgt : Nat} (hd : decode cc pc = .ok (.if_acmp .ne off, 3)) (ht : (pc : Int) + off = (tgt : Int)) (kt : ¬ rx = ry → AW p l e R s m args below meth c V G nL h cells slots Q tgt lv r) (kf : rx = ry → AW p l e R s m args below meth c V G nL h cells slots Q (pc + 3) lv r) : AW p l e R s m args below meth c V G nL h cells slots Q pc lv (va_rf ry :: va_rf rx :: r) := by
  intro H locs ls hH hl hv
  rw [List.map_cons, List.map_cons, ax_rf, ax_rf]
  exact lv_acmp_ne X.x X.b hd ht (fun q => kt (fun z => q ((ax_oi X.i.1).mpr z)) H locs ls hH hl hv) (fun q => kf ((ax_oi X.i.1).mp q) H locs ls hH hl hv)
theorem AW.if_eq (X : ax_X p m meth c s args V G cc nL own pl ret) {x : Int32} {off : Int} {tgt : Nat} (hd : decode cc pc = .ok (.ifCond .eq off, 3)) (ht : (pc : Int) + off = (tgt : Int)) (kt : x = 0 → AW p l e R s m args below meth c V G nL h cells slots Q tgt lv r) (kf : ¬ x = 0 → AW p l e R s m args below meth c V G nL h cells slots Q (pc + 3) lv r) : AW p l e R s m args below meth c V G nL h cells slots Q pc lv (.int x :: r) := by
  intro H locs ls hH hl hv
  exact lv_if_eq X.x X.b hd ht (fun q => kt q H locs ls hH hl hv) (fun q => kf q H locs ls hH hl hv)
theorem AW.icmp_eq (X : ax_X p m meth c s args V G cc nL own pl ret) {x y : Int32} {off : Int} {tgt : Nat} (hd : decode cc pc = .ok (.if_icmp .eq off, 3)) (ht : (pc : Int) + off = (tgt : Int)) (kt : x = y → AW p l e R s m args below meth c V G nL h cells slots Q tgt lv r) (kf : ¬ x = y → AW p l e R s m args below meth c V G nL h cells slots Q (pc + 3) lv r) : AW p l e R s m args below meth c V G nL h cells slots Q pc lv (.int y :: .int x :: r) := by
  intro H locs ls hH hl hv
  exact lv_icmp_eq X.x X.b hd ht (fun q => kt q H locs ls hH hl hv) (fun q => kf q H locs ls hH hl hv)
theorem AW.if_ne (X : ax_X p m meth c s args V G cc nL own pl ret) {x : Int32} {off : Int} {tgt : Nat} (hd : decode cc pc = .ok (.ifCond .ne off, 3)) (ht : (pc : Int) + off = (tgt : Int)) (kt : ¬ x = 0 → AW p l e R s m args below meth c V G nL h cells slots Q tgt lv r) (kf : x = 0 → AW p l e R s m args below meth c V G nL h cells slots Q (pc + 3) lv r) : AW p l e R s m args below meth c V G nL h cells slots Q pc lv (.int x :: r) := by
  intro H locs ls hH hl hv
  exact lv_if_ne X.x X.b hd ht (fun q => kt q H locs ls hH hl hv) (fun q => kf q H locs ls hH hl hv)
theorem AW.icmp_ne (X : ax_X p m meth c s args V G cc nL own pl ret) {x y : Int32} {off : Int} {tgt : Nat} (hd : decode cc pc = .ok (.if_icmp .ne off, 3)) (ht : (pc : Int) + off = (tgt : Int)) (kt : ¬ x = y → AW p l e R s m args below meth c V G nL h cells slots Q tgt lv r) (kf : x = y → AW p l e R s m args below meth c V G nL h cells slots Q (pc + 3) lv r) : AW p l e R s m args below meth c V G nL h cells slots Q pc lv (.int y :: .int x :: r) := by
  intro H locs ls hH hl hv
  exact lv_icmp_ne X.x X.b hd ht (fun q => kt q H locs ls hH hl hv) (fun q => kf q H locs ls hH hl hv)
theorem AW.if_lt (X : ax_X p m meth c s args V G cc nL own pl ret) {x : Int32} {off : Int} {tgt : Nat} (hd : decode cc pc = .ok (.ifCond .lt off, 3)) (ht : (pc : Int) + off = (tgt : Int)) (kt : x < 0 → AW p l e R s m args below meth c V G nL h cells slots Q tgt lv r) (kf : ¬ x < 0 → AW p l e R s m args below meth c V G nL h cells slots Q (pc + 3) lv r) : AW p l e R s m args below meth c V G nL h cells slots Q pc lv (.int x :: r) := by
  intro H locs ls hH hl hv
  exact lv_if_lt X.x X.b hd ht (fun q => kt q H locs ls hH hl hv) (fun q => kf q H locs ls hH hl hv)
theorem AW.icmp_lt (X : ax_X p m meth c s args V G cc nL own pl ret) {x y : Int32} {off : Int} {tgt : Nat} (hd : decode cc pc = .ok (.if_icmp .lt off, 3)) (ht : (pc : Int) + off = (tgt : Int)) (kt : x < y → AW p l e R s m args below meth c V G nL h cells slots Q tgt lv r) (kf : ¬ x < y → AW p l e R s m args below meth c V G nL h cells slots Q (pc + 3) lv r) : AW p l e R s m args below meth c V G nL h cells slots Q pc lv (.int y :: .int x :: r) := by
  intro H locs ls hH hl hv
  exact lv_icmp_lt X.x X.b hd ht (fun q => kt q H locs ls hH hl hv) (fun q => kf q H locs ls hH hl hv)
theorem AW.if_ge (X : ax_X p m meth c s args V G cc nL own pl ret) {x : Int32} {off : Int} {tgt : Nat} (hd : decode cc pc = .ok (.ifCond .ge off, 3)) (ht : (pc : Int) + off = (tgt : Int)) (kt : 0 ≤ x → AW p l e R s m args below meth c V G nL h cells slots Q tgt lv r) (kf : ¬ 0 ≤ x → AW p l e R s m args below meth c V G nL h cells slots Q (pc + 3) lv r) : AW p l e R s m args below meth c V G nL h cells slots Q pc lv (.int x :: r) := by
  intro H locs ls hH hl hv
  exact lv_if_ge X.x X.b hd ht (fun q => kt q H locs ls hH hl hv) (fun q => kf q H locs ls hH hl hv)
theorem AW.icmp_ge (X : ax_X p m meth c s args V G cc nL own pl ret) {x y : Int32} {off : Int} {tgt : Nat} (hd : decode cc pc = .ok (.if_icmp .ge off, 3)) (ht : (pc : Int) + off = (tgt : Int)) (kt : y ≤ x → AW p l e R s m args below meth c V G nL h cells slots Q tgt lv r) (kf : ¬ y ≤ x → AW p l e R s m args below meth c V G nL h cells slots Q (pc + 3) lv r) : AW p l e R s m args below meth c V G nL h cells slots Q pc lv (.int y :: .int x :: r) := by
  intro H locs ls hH hl hv
  exact lv_icmp_ge X.x X.b hd ht (fun q => kt q H locs ls hH hl hv) (fun q => kf q H locs ls hH hl hv)
theorem AW.if_gt (X : ax_X p m meth c s args V G cc nL own pl ret) {x : Int32} {off : Int} {tgt : Nat} (hd : decode cc pc = .ok (.ifCond .gt off, 3)) (ht : (pc : Int) + off = (tgt : Int)) (kt : 0 < x → AW p l e R s m args below meth c V G nL h cells slots Q tgt lv r) (kf : ¬ 0 < x → AW p l e R s m args below meth c V G nL h cells slots Q (pc + 3) lv r) : AW p l e R s m args below meth c V G nL h cells slots Q pc lv (.int x :: r) := by
  intro H locs ls hH hl hv
  exact lv_if_gt X.x X.b hd ht (fun q => kt q H locs ls hH hl hv) (fun q => kf q H locs ls hH hl hv)
theorem AW.icmp_gt (X : ax_X p m meth c s args V G cc nL own pl ret) {x y : Int32} {off : Int} {tgt : Nat} (hd : decode cc pc = .ok (.if_icmp .gt off, 3)) (ht : (pc : Int) + off = (tgt : Int)) (kt : y < x → AW p l e R s m args below meth c V G nL h cells slots Q tgt lv r) (kf : ¬ y < x → AW p l e R s m args below meth c V G nL h cells slots Q (pc + 3) lv r) : AW p l e R s m args below meth c V G nL h cells slots Q pc lv (.int y :: .int x :: r) := by
  intro H locs ls hH hl hv
  exact lv_icmp_gt X.x X.b hd ht (fun q => kt q H locs ls hH hl hv) (fun q => kf q H locs ls hH hl hv)
theorem AW.if_le (X : ax_X p m meth c s args V G cc nL own pl ret) {x : Int32} {off : Int} {tgt : Nat} (hd : decode cc pc = .ok (.ifCond .le off, 3)) (ht : (pc : Int) + off = (tgt : Int)) (kt : x ≤ 0 → AW p l e R s m args below meth c V G nL h cells slots Q tgt lv r) (kf : ¬ x ≤ 0 → AW p l e R s m args below meth c V G nL h cells slots Q (pc + 3) lv r) : AW p l e R s m args below meth c V G nL h cells slots Q pc lv (.int x :: r) := by
  intro H locs ls hH hl hv
  exact lv_if_le X.x X.b hd ht (fun q => kt q H locs ls hH hl hv) (fun q => kf q H locs ls hH hl hv)
theorem AW.icmp_le (X : ax_X p m meth c s args V G cc nL own pl ret) {x y : Int32} {off : Int} {tgt : Nat} (hd : decode cc pc = .ok (.if_icmp .le off, 3)) (ht : (pc : Int) + off = (tgt : Int)) (kt : x ≤ y → AW p l e R s m args below meth c V G nL h cells slots Q tgt lv r) (kf : ¬ x ≤ y → AW p l e R s m args below meth c V G nL h cells slots Q (pc + 3) lv r) : AW p l e R s m args below meth c V G nL h cells slots Q pc lv (.int y :: .int x :: r) := by
  intro H locs ls hH hl hv
  exact lv_icmp_le X.x X.b hd ht (fun q => kt q H locs ls hH hl hv) (fun q => kf q H locs ls hH hl hv)
theorem AW.tableOut (X : ax_X p m meth c s args V G cc nL own pl ret) {dflt lo hi : Int} {offs : Array Int} {len : Nat} {x : Int32} {tgt : Nat} (hd : decode cc pc = .ok (.tableswitch dflt lo hi offs, len)) (hx : x.toInt < lo ∨ hi < x.toInt) (ht : (pc : Int) + dflt = (tgt : Int)) (k : AW p l e R s m args below meth c V G nL h cells slots Q tgt lv r) : AW p l e R s m args below meth c V G nL h cells slots Q pc lv (.int x :: r) := by
  intro H locs ls hH hl hv
  exact lv_tableOut X.x X.b hd hx ht (k H locs ls hH hl hv)
theorem AW.tableIn (X : ax_X p m meth c s args V G cc nL own pl ret) {dflt lo hi : Int} {offs : Array Int} {len : Nat} {x : Int32} {off : Int} {tgt : Nat} (hd : decode cc pc = .ok (.tableswitch dflt lo hi offs, len)) (h1 : ¬ x.toInt < lo) (h2 : ¬ hi < x.toInt) (ho : offs[(x.toInt - lo).toNat]? = some off) (ht : (pc : Int) + off = (tgt : Int)) (k : AW p l e R s m args below meth c V G nL h cells slots Q tgt lv r) : AW p l e R s m args below meth c V G nL h cells slots Q pc lv (.int x :: r) := by
  intro H locs ls hH hl hv
  exact lv_tableIn X.x X.b hd h1 h2 ho ht (k H locs ls hH hl hv)
theorem AW.lookup (X : ax_X p m meth c s args V G cc nL own pl ret) {dflt : Int} {ps : Array (Int × Int)} {len : Nat} {x : Int32} {off : Int} {tgt : Nat} (hd : decode cc pc = .ok (.lookupswitch dflt ps, len)) (hp : (ps.toList.zip (ps.toList.drop 1)).all (fun (a, next) => a.1 < next.1) = true) (ho : Op.lookupswitch.offset ps.toList dflt x.toInt = off) (ht : (pc : Int) + off = (tgt : Int)) (k : AW p l e R s m args below meth c V G nL h cells slots Q tgt lv r) : AW p l e R s m args below meth c V G nL h cells slots Q pc lv (.int x :: r) := by
  intro H locs ls hH hl hv
  exact lv_lookup X.x X.b hd hp ho ht (k H locs ls hH hl hv)
theorem AW.idiv (X : ax_X p m meth c s args V G cc nL own pl ret) {x y : Int32} (hd : decode cc pc = .ok (.idiv, 1)) (hy : ¬ y = 0) (k : AW p l e R s m args below meth c V G nL h cells slots Q (pc + 1) lv (.int (x / y) :: r)) : AW p l e R s m args below meth c V G nL h cells slots Q pc lv (.int y :: .int x :: r) := by
  intro H locs ls hH hl hv
  exact lv_idiv X.x X.b hd hy (k H locs ls hH hl hv)
theorem AW.irem (X : ax_X p m meth c s args V G cc nL own pl ret) {x y : Int32} (hd : decode cc pc = .ok (.irem, 1)) (hy : ¬ y = 0) (k : AW p l e R s m args below meth c V G nL h cells slots Q (pc + 1) lv (.int (x - x / y * y) :: r)) : AW p l e R s m args below meth c V G nL h cells slots Q pc lv (.int y :: .int x :: r) := by
  intro H locs ls hH hl hv
  exact lv_irem X.x X.b hd hy (k H locs ls hH hl hv)
theorem AW.ldiv (X : ax_X p m meth c s args V G cc nL own pl ret) {x y : Int64} (hd : decode cc pc = .ok (.ldiv, 1)) (hy : ¬ y = 0) (k : AW p l e R s m args below meth c V G nL h cells slots Q (pc + 1) lv (.long (x / y) :: r)) : AW p l e R s m args below meth c V G nL h cells slots Q pc lv (.long y :: .long x :: r) := by
  intro H locs ls hH hl hv
  exact lv_ldiv X.x X.b hd hy (k H locs ls hH hl hv)
theorem AW.lrem (X : ax_X p m meth c s args V G cc nL own pl ret) {x y : Int64} (hd : decode cc pc = .ok (.lrem, 1)) (hy : ¬ y = 0) (k : AW p l e R s m args below meth c V G nL h cells slots Q (pc + 1) lv (.long (x - x / y * y) :: r)) : AW p l e R s m args below meth c V G nL h cells slots Q pc lv (.long y :: .long x :: r) := by
  intro H locs ls hH hl hv
  exact lv_lrem X.x X.b hd hy (k H locs ls hH hl hv)
end AXR
end
section
/-! RULES: arrays, fields, new cells -/
theorem ax_locs {G : ax_G} {locs : List Loc} {a i : Nat} (hl : ∀ q ∈ locs, G.bs ≤ q.base) (ha : G.bs ≤ a) : ∀ q ∈ locs ++ [(⟨a, i⟩ : Loc)], G.bs ≤ q.base := t_lc hl ha
theorem ax_inn {i : Int32} {j n : Nat} (hi : i = nI j) (hj : j < n) (hn : n < 2 ^ 31) : vp_in i n ∧ i.toNatClampNeg = j := by
  subst hi
  exact ⟨vp_in_nI hj hn, nI_clamp (by omega)⟩
section AXS
variable {p : Program} {l : Launch} {e : Env} {R : Room} {s : State} {m : MethodId} {args : Array Value} {below : List Frame} {meth : Method} {c : Code} {V : ax_V} {G : ax_G} {cc : ByteArray} {nL : Nat} {own : String} {pl : ax_pool} {ret : Option FieldType} {cells slots : Nat} {Q : State → Prop}
variable {pc : Nat} {lv : List (Nat × Value)} {r : List Value} {h : List va_E} {a t n j : Nat} {i : Int32}
theorem AW.iald (X : ax_X p m meth c s args V G cc nL own pl ret) {f : Nat → Int32} (ha : h[a]? = some (.inl (t, n, .inl f))) (ht : V.tl[t]? = some .int) (hi : i = nI j) (hj : j < n) (hn : n < 2 ^ 31) (hd : decode cc pc = .ok (.iaload, 1)) (k : AW p l e R s m args below meth c V G nL h cells slots Q (pc + 1) lv (.int (f j) :: r)) : AW p l e R s m args below meth c V G nL h cells slots Q pc lv (.int i :: .ref a :: r) := by
  obtain ⟨h1, h2⟩ := ax_inn hi hj hn
  subst h2
  intro H locs ls hH hl hv
  exact va_iald X.x X.b (X.k.K1 ht) (ax_P1 hH ha) 0 0 rfl rfl h1 hd (k H locs ls hH hl hv)
theorem AW.bald (X : ax_X p m meth c s args V G cc nL own pl ret) {f : Nat → Int32} (ha : h[a]? = some (.inl (t, n, .inl f))) (ht : V.tl[t]? = some .byte) (hi : i = nI j) (hj : j < n) (hn : n < 2 ^ 31) (hd : decode cc pc = .ok (.baload, 1)) (k : AW p l e R s m args below meth c V G nL h cells slots Q (pc + 1) lv (.int (f j) :: r)) : AW p l e R s m args below meth c V G nL h cells slots Q pc lv (.int i :: .ref a :: r) := by
  obtain ⟨h1, h2⟩ := ax_inn hi hj hn
  subst h2
  intro H locs ls hH hl hv
  exact va_bald X.x X.b (X.k.K1 ht) (ax_P1 hH ha) 0 0 rfl rfl h1 hd (k H locs ls hH hl hv)
theorem AW.zald (X : ax_X p m meth c s args V G cc nL own pl ret) {f : Nat → Int32} (ha : h[a]? = some (.inl (t, n, .inl f))) (ht : V.tl[t]? = some .boolean) (hi : i = nI j) (hj : j < n) (hn : n < 2 ^ 31) (hd : decode cc pc = .ok (.baload, 1)) (k : AW p l e R s m args below meth c V G nL h cells slots Q (pc + 1) lv (.int (f j) :: r)) : AW p l e R s m args below meth c V G nL h cells slots Q pc lv (.int i :: .ref a :: r) := by
  obtain ⟨h1, h2⟩ := ax_inn hi hj hn
  subst h2
  intro H locs ls hH hl hv
  exact va_zald X.x X.b (X.k.K1 ht) (ax_P1 hH ha) 0 0 rfl rfl h1 hd (k H locs ls hH hl hv)
theorem AW.cald (X : ax_X p m meth c s args V G cc nL own pl ret) {f : Nat → Int32} (ha : h[a]? = some (.inl (t, n, .inl f))) (ht : V.tl[t]? = some .char) (hi : i = nI j) (hj : j < n) (hn : n < 2 ^ 31) (hd : decode cc pc = .ok (.caload, 1)) (k : AW p l e R s m args below meth c V G nL h cells slots Q (pc + 1) lv (.int (f j) :: r)) : AW p l e R s m args below meth c V G nL h cells slots Q pc lv (.int i :: .ref a :: r) := by
  obtain ⟨h1, h2⟩ := ax_inn hi hj hn
  subst h2
  intro H locs ls hH hl hv
  exact va_cald X.x X.b (X.k.K1 ht) (ax_P1 hH ha) 0 0 rfl rfl h1 hd (k H locs ls hH hl hv)
theorem AW.lald (X : ax_X p m meth c s args V G cc nL own pl ret) {f : Nat → Int64} (ha : h[a]? = some (.inl (t, n, .inr (.inl f)))) (ht : V.tl[t]? = some .long) (hi : i = nI j) (hj : j < n) (hn : n < 2 ^ 31) (hd : decode cc pc = .ok (.laload, 1)) (k : AW p l e R s m args below meth c V G nL h cells slots Q (pc + 1) lv (.long (f j) :: r)) : AW p l e R s m args below meth c V G nL h cells slots Q pc lv (.int i :: .ref a :: r) := by
  obtain ⟨h1, h2⟩ := ax_inn hi hj hn
  subst h2
  intro H locs ls hH hl hv
  exact va_lald X.x X.b (X.k.K1 ht) (ax_P1 hH ha) 0 0 rfl rfl h1 hd (k H locs ls hH hl hv)
theorem AW.aald (X : ax_X p m meth c s args V G cc nL own pl ret) {C : String} {f : Nat → Option Nat} (ha : h[a]? = some (.inl (t, n, .inr (.inr (.inr (.inr f)))))) (ht : V.tl[t]? = some (.object C)) (hi : i = nI j) (hj : j < n) (hn : n < 2 ^ 31) (hd : decode cc pc = .ok (.aaload, 1)) (k : AW p l e R s m args below meth c V G nL h cells slots Q (pc + 1) lv (va_rf (f j) :: r)) : AW p l e R s m args below meth c V G nL h cells slots Q pc lv (.int i :: .ref a :: r) := by
  obtain ⟨h1, h2⟩ := ax_inn hi hj hn
  subst h2
  intro H locs ls hH hl hv
  have k1 := k H locs ls hH hl hv
  rw [List.map_cons, ax_rf] at k1
  exact va_aldq X.x X.b (X.k.K1 ht) (ax_P1 hH ha) 0 0 rfl rfl h1 hd k1
theorem AW.alen (X : ax_X p m meth c s args V G cc nL own pl ret) {x : vp_A} {ty : FieldType} (ha : h[a]? = some (.inl (t, x))) (ht : V.tl[t]? = some ty) (hd : decode cc pc = .ok (.arraylength, 1)) (k : AW p l e R s m args below meth c V G nL h cells slots Q (pc + 1) lv (.int (nI x.1) :: r)) : AW p l e R s m args below meth c V G nL h cells slots Q pc lv (.ref a :: r) := by
  intro H locs ls hH hl hv
  have hx : (ax_a G.ph x).1 = x.1 := by
    unfold ax_a
    split <;> rfl
  exact va_alen X.x X.b (X.k.K1 ht) (ax_P1 hH ha) 0 0 rfl rfl (by rw [hx]; rfl) hd (k H locs ls hH hl hv)
theorem AW.iast (X : ax_X p m meth c s args V G cc nL own pl ret) {f : Nat → Int32} {x : Int32} (ha : h[a]? = some (.inl (t, n, .inl f))) (ht : V.tl[t]? = some .int) (hna : ax_nC ≤ a) (hi : i = nI j) (hj : j < n) (hn : n < 2 ^ 31) (hd : decode cc pc = .ok (.iastore, 1)) (k : AW p l e R s m args below meth c V G nL (h.set a (.inl (t, n, .inl (upd f j x)))) cells slots Q (pc + 1) lv r) : AW p l e R s m args below meth c V G nL h cells slots Q pc lv (.int x :: .int i :: .ref a :: r) := by
  obtain ⟨h1, h2⟩ := ax_inn hi hj hn
  subst h2
  intro H locs ls hH hl hv
  refine W.iast X.x X.b (hH.1 a _ ha) ((X.k.2.1 t _ ht).1 n (fun j => .int (f j))) (fun q => by cases q) (by show ¬ (i < 0 ∨ (arrV _ _ _).slots.size ≤ _); rw [arrV_size]; exact h1) rfl rfl hd fun H1 e z oq => ?_
  refine k H1 _ ls (ax_set X.i hH ha hna ?_ z oq) (ax_locs hl (ax_bsle X.i hna)) hv
  show H1[G.ph a]? = some (vp_cell (G.ca t) (n, .inl (upd f i.toNatClampNeg x)))
  rw [e]
  show some ((vp_cell (G.ca t) (n, .inl f)).setSlot _ _) = _
  rw [vp_cell_i, vp_cell_i, arrV_store]
  congr 2
  funext q
  by_cases hq : q = i.toNatClampNeg
  · subst hq
    simp [updV, upd]
    try rfl
  · simp [updV, upd, hq]
theorem AW.bast (X : ax_X p m meth c s args V G cc nL own pl ret) {f : Nat → Int32} {x : Int32} (ha : h[a]? = some (.inl (t, n, .inl f))) (ht : V.tl[t]? = some .byte) (hna : ax_nC ≤ a) (hi : i = nI j) (hj : j < n) (hn : n < 2 ^ 31) (hd : decode cc pc = .ok (.bastore, 1)) (k : AW p l e R s m args below meth c V G nL (h.set a (.inl (t, n, .inl (upd f j (vp_nar .byte x))))) cells slots Q (pc + 1) lv r) : AW p l e R s m args below meth c V G nL h cells slots Q pc lv (.int x :: .int i :: .ref a :: r) := by
  obtain ⟨h1, h2⟩ := ax_inn hi hj hn
  subst h2
  intro H locs ls hH hl hv
  refine W.bast X.x X.b (hH.1 a _ ha) ((X.k.2.1 t _ ht).1 n (fun j => .int (f j))) (fun q => by cases q) (by show ¬ (i < 0 ∨ (arrV _ _ _).slots.size ≤ _); rw [arrV_size]; exact h1) rfl rfl hd fun H1 e z oq => ?_
  refine k H1 _ ls (ax_set X.i hH ha hna ?_ z oq) (ax_locs hl (ax_bsle X.i hna)) hv
  show H1[G.ph a]? = some (vp_cell (G.ca t) (n, .inl (upd f i.toNatClampNeg (vp_nar .byte x))))
  rw [e]
  show some ((vp_cell (G.ca t) (n, .inl f)).setSlot _ _) = _
  rw [vp_cell_i, vp_cell_i, arrV_store]
  congr 2
  funext q
  by_cases hq : q = i.toNatClampNeg
  · subst hq
    simp [updV, upd, vp_nar]
    try rfl
  · simp [updV, upd, hq]
theorem AW.zast (X : ax_X p m meth c s args V G cc nL own pl ret) {f : Nat → Int32} {x : Int32} (ha : h[a]? = some (.inl (t, n, .inl f))) (ht : V.tl[t]? = some .boolean) (hna : ax_nC ≤ a) (hi : i = nI j) (hj : j < n) (hn : n < 2 ^ 31) (hd : decode cc pc = .ok (.bastore, 1)) (k : AW p l e R s m args below meth c V G nL (h.set a (.inl (t, n, .inl (upd f j (vp_nar .boolean x))))) cells slots Q (pc + 1) lv r) : AW p l e R s m args below meth c V G nL h cells slots Q pc lv (.int x :: .int i :: .ref a :: r) := by
  obtain ⟨h1, h2⟩ := ax_inn hi hj hn
  subst h2
  intro H locs ls hH hl hv
  refine W.zast X.x X.b (hH.1 a _ ha) ((X.k.2.1 t _ ht).1 n (fun j => .int (f j))) (fun q => by cases q) (by show ¬ (i < 0 ∨ (arrV _ _ _).slots.size ≤ _); rw [arrV_size]; exact h1) rfl rfl hd fun H1 e z oq => ?_
  refine k H1 _ ls (ax_set X.i hH ha hna ?_ z oq) (ax_locs hl (ax_bsle X.i hna)) hv
  show H1[G.ph a]? = some (vp_cell (G.ca t) (n, .inl (upd f i.toNatClampNeg (vp_nar .boolean x))))
  rw [e]
  show some ((vp_cell (G.ca t) (n, .inl f)).setSlot _ _) = _
  rw [vp_cell_i, vp_cell_i, arrV_store]
  congr 2
  funext q
  by_cases hq : q = i.toNatClampNeg
  · subst hq
    simp [updV, upd, vp_nar]
    try rfl
  · simp [updV, upd, hq]
theorem AW.last (X : ax_X p m meth c s args V G cc nL own pl ret) {f : Nat → Int64} {x : Int64} (ha : h[a]? = some (.inl (t, n, .inr (.inl f)))) (ht : V.tl[t]? = some .long) (hna : ax_nC ≤ a) (hi : i = nI j) (hj : j < n) (hn : n < 2 ^ 31) (hd : decode cc pc = .ok (.lastore, 1)) (k : AW p l e R s m args below meth c V G nL (h.set a (.inl (t, n, .inr (.inl (vp_updL f j x))))) cells slots Q (pc + 1) lv r) : AW p l e R s m args below meth c V G nL h cells slots Q pc lv (.long x :: .int i :: .ref a :: r) := by
  obtain ⟨h1, h2⟩ := ax_inn hi hj hn
  subst h2
  intro H locs ls hH hl hv
  refine W.last X.x X.b (hH.1 a _ ha) ((X.k.2.1 t _ ht).1 n (fun j => .long (f j))) (fun q => by cases q) (by show ¬ (i < 0 ∨ (arrV _ _ _).slots.size ≤ _); rw [arrV_size]; exact h1) rfl rfl hd fun H1 e z oq => ?_
  refine k H1 _ ls (ax_set X.i hH ha hna ?_ z oq) (ax_locs hl (ax_bsle X.i hna)) hv
  show H1[G.ph a]? = some (vp_cell (G.ca t) (n, .inr (.inl (vp_updL f i.toNatClampNeg x))))
  rw [e]
  show some ((vp_cell (G.ca t) (n, .inr (.inl f))).setSlot _ _) = _
  rw [vp_cell_l, vp_cell_l, arrV_store]
  congr 2
  funext q
  by_cases hq : q = i.toNatClampNeg
  · subst hq
    simp [updV, vp_updL]
    try rfl
  · simp [updV, vp_updL, hq]
theorem AW.aastN (X : ax_X p m meth c s args V G cc nL own pl ret) {C : String} {f : Nat → Option Nat} (ha : h[a]? = some (.inl (t, n, .inr (.inr (.inr (.inr f)))))) (ht : V.tl[t]? = some (.object C)) (hna : ax_nC ≤ a) (hi : i = nI j) (hj : j < n) (hn : n < 2 ^ 31) (hd : decode cc pc = .ok (.aastore, 1)) (k : AW p l e R s m args below meth c V G nL (h.set a (.inl (t, n, .inr (.inr (.inr (.inr (va_up f j none))))))) cells slots Q (pc + 1) lv r) : AW p l e R s m args below meth c V G nL h cells slots Q pc lv (.null :: .int i :: .ref a :: r) := by
  obtain ⟨h1, h2⟩ := ax_inn hi hj hn
  subst h2
  intro H locs ls hH hl hv
  refine va_WaastN (C := C) X.x X.b (hH.1 a _ ha) ((X.k.2.1 t _ ht).1 n (fun j => va_rf (ax_o G.ph (f j)))) (fun q => by cases q) (by show ¬ (i < 0 ∨ (arrV _ _ _).slots.size ≤ _); rw [arrV_size]; exact h1) rfl rfl hd fun H1 e z oq => ?_
  refine k H1 _ ls (ax_set X.i hH ha hna ?_ z oq) (ax_locs hl (ax_bsle X.i hna)) hv
  show H1[G.ph a]? = some (vp_cell (G.ca t) (n, .inr (.inr (.inr (.inr (fun q => ax_o G.ph (va_up f i.toNatClampNeg none q)))))))
  rw [e]
  show some ((vp_cell (G.ca t) (n, .inr (.inr (.inr (.inr (fun q => ax_o G.ph (f q))))))).setSlot _ _) = _
  rw [vp_cell_q, vp_cell_q, arrV_store]
  congr 2
  funext q
  by_cases hq : q = i.toNatClampNeg
  · subst hq
    simp [updV, va_up, va_rf, ax_o]
  · simp [updV, va_up, hq]
/-- a reference to an object of class ci is stored: that class is the array's component's, or can be cast to it -/
theorem AW.aast (X : ax_X p m meth c s args V G cc nL own pl ret) {E : String} {f : Nat → Option Nat} {b ci : Nat} {fs : List Value} {rc : vw_C} (ha : h[a]? = some (.inl (t, n, .inr (.inr (.inr (.inr f)))))) (ht : V.tl[t]? = some (.object E)) (hna : ax_nC ≤ a) (hb : h[b]? = some (.inr (ci, fs))) (hc : V.cl[ci]? = some rc) (hca : rc.1 = E ∨ Cond.castable rc.1 E ∈ V.ts) (hi : i = nI j) (hj : j < n) (hn : n < 2 ^ 31) (hd : decode cc pc = .ok (.aastore, 1)) (k : AW p l e R s m args below meth c V G nL (h.set a (.inl (t, n, .inr (.inr (.inr (.inr (va_up f j (some b)))))))) cells slots Q (pc + 1) lv r) : AW p l e R s m args below meth c V G nL h cells slots Q pc lv (.ref b :: .int i :: .ref a :: r) := by
  obtain ⟨h1, h2⟩ := ax_inn hi hj hn
  subst h2
  have hlt : i.toNatClampNeg < n := hj
  have h0 : ¬ i < 0 := fun q => h1 (Or.inl q)
  intro H locs ls hH hl hv
  obtain ⟨r', hr', cellV, g1, g2, g3, -⟩ := hH.1 b _ hb
  have hcls := (X.k.u hc).2
  obtain ⟨kA, comp, k1, k2, k3, -⟩ := (X.k.2.1 t _ ht).2
  obtain ⟨kE, hkE, -⟩ := Vm.findClass_spec k3
  obtain ⟨kC, hkC, -⟩ := hcls.2
  have has : s.vm.assignable (G.1.1 ci) comp = true := by
    rcases hca with hca | hca
    · rw [← hca] at k3
      cases hcls.1.symm.trans k3
      exact va_assign hcls
    · obtain ⟨c0, t1, f1, f2, f3⟩ := Cond.castable_spec (X.ts _ hca)
      cases hcls.1.symm.trans f1
      cases k3.symm.trans f2
      exact f3
  refine W.aast X.x X.b (hH.1 a _ ha) (fun q h => by cases h) (fun h => by cases h) k1 k2 rfl hkE ⟨h0, by show _ < (arrV _ _ _).slots.size; rw [arrV_size]; exact hlt⟩ g1 (fun q h => by rw [g3] at h; cases h) (by rw [g2]; exact hkC) (by rw [g2]; exact has) rfl rfl hd fun H1 e z oq => ?_
  refine k H1 _ ls (ax_set X.i hH ha hna ?_ z oq) (ax_locs hl (ax_bsle X.i hna)) hv
  show H1[G.ph a]? = some (vp_cell (G.ca t) (n, .inr (.inr (.inr (.inr (fun q => ax_o G.ph (va_up f i.toNatClampNeg (some b) q)))))))
  rw [e]
  show some ((vp_cell (G.ca t) (n, .inr (.inr (.inr (.inr (fun q => ax_o G.ph (f q))))))).setSlot _ _) = _
  rw [vp_cell_q, vp_cell_q, arrV_store]
  congr 2
  funext q
  by_cases hq : q = i.toNatClampNeg
  · subst hq
    simp [updV, va_up, va_rf, ax_o]
  · simp [updV, va_up, hq]
theorem AW.get (X : ax_X p m meth c s args V G cc nL own pl ret) {idx ci k : Nat} {fs : List Value} {v : Value} (ha : h[a]? = some (.inr (ci, fs))) (hf : pl.1 idx ci = some k) (hv1 : fs[k]? = some v) (hd : decode cc pc = .ok (.getfield idx, 3)) (kk : AW p l e R s m args below meth c V G nL h cells slots Q (pc + 3) lv (v :: r)) : AW p l e R s m args below meth c V G nL h cells slots Q pc lv (.ref a :: r) := fun H locs ls hH hl hv => ax_getf X hH ha hf hv1 hd (kk H locs ls hH hl hv)
/-- what is known of a class whose fields are written -/
def ax_L (V : ax_V) (C : String) (T : u_T) (N : Nat) : Prop := (∀ w ∈ u_ws C T N, w ∈ V.ts) ∧ (∃ ty : Nat → FieldType, ∀ k, k < N → parseFieldDescriptor (T k).2.2.1 = some (ty k)) ∧ ∀ a, a < N → ∀ b, b < N → a ≠ b → (T a).2.1 ≠ (T b).2.1
theorem ax_setmap (ph : Nat → Nat) (fs : List Value) (k : Nat) (v : Value) : (fs.set k v).map (ax_v ph) = (fs.map (ax_v ph)).set k (ax_v ph v) := by rw [List.map_set]
theorem AW.put (X : ax_X p m meth c s args V G cc nL own pl ret) {idx ci k N : Nat} {C : String} {T : u_T} {fs : List Value} {v : Value} {ty : FieldType} (ha : h[a]? = some (.inr (ci, fs))) (hna : ax_nC ≤ a) (hf : pl.1 idx ci = some k) (hc : V.cl[ci]? = some (C, T, N)) (hL : ax_L V C T N) (hfin : (T k).2.2.2 = false) (hty : parseFieldDescriptor (T k).2.2.1 = some ty) (hn : narrow ty (ax_v G.ph v) = ax_v G.ph v) (hfit : fits ty (ax_v G.ph v) = true) (hk : k < fs.length) (hd : decode cc pc = .ok (.putfield idx, 3)) (kk : AW p l e R s m args below meth c V G nL (h.set a (.inr (ci, fs.set k v))) cells slots Q (pc + 3) lv r) : AW p l e R s m args below meth c V G nL h cells slots Q pc lv (v :: .ref a :: r) := by
  obtain ⟨C', T', N', ref, h1, h2, h3, h7⟩ := X.f idx ci k hf
  cases hc.symm.trans h1
  obtain ⟨h4, ⟨ty0, h5⟩, h6⟩ := hL
  intro H locs ls hH hl hv
  have hap := va_apart (own := own) X.ts h4 ty0 h5 h6 X.k.K hc
  obtain ⟨r', e1, cell, q1, q2, q3, q4⟩ := hH.1 a _ ha
  have hr : r' = (C, T, N) := Option.some.inj (e1.symm.trans hc)
  subst hr
  obtain ⟨hS, hfc, kC, hkC, hkind⟩ := X.k.u hc
  obtain ⟨cf, kf, fi, f, hi, hsl⟩ := hS k h2
  have hlay := X.ts _ (h4 _ (u_in_lay h2))
  unfold u_lay at hlay
  rw [if_neg (by rw [hfin]; decide)] at hlay
  have hst := (u_facts hfc hkC (u_lays X.ts h4 h2) hi).1
  have hsd := u_store hfc hkC hkind hlay hi hty hn hfit
  refine W.putK X.x X.b (f := f) ⟨X.ow, X.ts _ h3, ⟨_, _, _, ax_same X.ts h7 _ hi⟩, hst⟩ (by rw [q2]; exact hsd) q1 q3 (by rw [hsl]; exact k2_hasslot (q4 k h2)) rfl rfl hd fun H' e1 e2 e3 => ?_
  refine kk H' _ ls (ax_set X.i hH ha hna ?_ e2 e3) (ax_locs hl (ax_bsle X.i hna)) hv
  rw [hsl] at e1
  refine ⟨_, hc, t_OB.to (V := updV (vp_V (fs.map (ax_v G.ph))) k (ax_v G.ph v)) ⟨_, e1, q2, q3, t_set q4 hap h2 _⟩ (fun j _ => ?_)⟩
  rw [vp_updV_set (by rw [List.length_map]; exact hk), ← ax_setmap]
theorem AW.putF (X : ax_X p m meth c s args V G cc nL own pl ret) {idx ci k N : Nat} {C : String} {T : u_T} {fs : List Value} {v : Value} {ty : FieldType} (ha : h[a]? = some (.inr (ci, fs))) (hna : ax_nC ≤ a) (hf : pl.1 idx ci = some k) (hc : V.cl[ci]? = some (C, T, N)) (hL : ax_L V C T N) (hfin : (T k).2.2.2 = true) (hini : pl.2.2 = true) (hown : (T k).1 = own) (hty : parseFieldDescriptor (T k).2.2.1 = some ty) (hn : narrow ty (ax_v G.ph v) = ax_v G.ph v) (hfit : fits ty (ax_v G.ph v) = true) (hk : k < fs.length) (hd : decode cc pc = .ok (.putfield idx, 3)) (kk : AW p l e R s m args below meth c V G nL (h.set a (.inr (ci, fs.set k v))) cells slots Q (pc + 3) lv r) : AW p l e R s m args below meth c V G nL h cells slots Q pc lv (v :: .ref a :: r) := by
  obtain ⟨C', T', N', ref, h1, h2, h3, h7⟩ := X.f idx ci k hf
  cases hc.symm.trans h1
  obtain ⟨h4, ⟨ty0, h5⟩, h6⟩ := hL
  intro H locs ls hH hl hv
  have hap := va_apart (own := own) X.ts h4 ty0 h5 h6 X.k.K hc
  obtain ⟨r', e1, cell, q1, q2, q3, q4⟩ := hH.1 a _ ha
  have hr : r' = (C, T, N) := Option.some.inj (e1.symm.trans hc)
  subst hr
  obtain ⟨hS, hfc, kC, hkC, hkind⟩ := X.k.u hc
  obtain ⟨cf, kf, fi, f, hi, hsl⟩ := hS k h2
  have hlay := u_lays X.ts h4 h2
  have hst := (u_facts hfc hkC hlay hi).1
  have hsd := u_fits hfc hkC hkind hlay hi hty hn hfit
  have hcf : m.cls = cf := by
    have hlay2 := X.ts _ (h4 _ (u_in_lay h2))
    unfold u_lay at hlay2
    rw [if_pos hfin] at hlay2
    obtain ⟨_, _, c', _, _, _, -, -, hf', -, -, -, hown2, -⟩ := Cond.laysFinal_spec hlay2
    have e9 : c' = cf := by have := hi.symm.trans hf'; simp at this; exact this.1.symm
    rw [hown] at hown2
    rw [← e9]; exact Option.some.inj (X.ow.symm.trans hown2)
  refine W.putFinK X.x X.b X.ow (X.ts _ h3) (ax_same X.ts h7 _ hi) hst hcf (X.ini hini) (by rw [q2]; exact hsd) q1 q3 (by rw [hsl]; exact k2_hasslot (q4 k h2)) rfl rfl hd fun H' e1 e2 e3 => ?_
  refine kk H' _ ls (ax_set X.i hH ha hna ?_ e2 e3) (ax_locs hl (ax_bsle X.i hna)) hv
  rw [hsl] at e1
  refine ⟨_, hc, t_OB.to (V := updV (vp_V (fs.map (ax_v G.ph))) k (ax_v G.ph v)) ⟨_, e1, q2, q3, t_set q4 hap h2 _⟩ (fun j _ => ?_)⟩
  rw [vp_updV_set (by rw [List.length_map]; exact hk), ← ax_setmap]
theorem AW.gets (X : ax_X p m meth c s args V G cc nL own pl ret) {idx : Nat} {C nm ds : String} {v : Value} (hz : (C, nm, ds, v) ∈ V.zs) (hlink : Cond.fieldLink own idx C nm ds ∈ V.ts) (hd : decode cc pc = .ok (.getstatic idx, 3)) (kk : AW p l e R s m args below meth c V G nL h cells slots Q (pc + 3) lv (v :: r)) : AW p l e R s m args below meth c V G nL h cells slots Q pc lv r := by
  intro H locs ls hH hl hv
  obtain ⟨cf, kf, fi, f, a, cell, h1, h2, h3, h4, h5, h6, h7, h8⟩ := X.k.2.2 _ hz
  exact W.gets X.x X.b X.ow (X.ts _ hlink) h1 h2 h3 h4 (by rw [hH.2.2.2 a (Nat.not_le.mp h8)]; exact h5) (fun e => by rw [e] at h6; cases h6) h7 rfl hd (kk H locs ls hH hl hv)
end AXS
end
section
/-! RULES: new cells, calls, ends; 'AM': a method's contract over the abstract heap -/
def ax_Q (V : ax_V) (G : ax_G) (Qa : Option Value → List va_E → Prop) : Array Value → State → Outcome → State → Prop := fun _ _ o t =>
  ∃ (v : Option Value) (h' : List va_E), o = .returned (v.map (ax_v G.ph)) ∧ Qa v h' ∧ ax_H V G h' t.heap
def ax_R (d mc ms : Nat) : Room := { frames := d, cells := mc, slots := ms, locals := 40 * d }
/-- method y, on these arguments and this abstract heap: it returns, and the answer and the heap then satisfy Qa; d: how deep it calls; mc, ms: at most so many cells and slots come -/
def AM (l : Launch) (V : ax_V) (G : ax_G) (y : MethodName) (cc : ByteArray) (maxL : Nat) (ret : Option FieldType) (d mc ms : Nat) (As : List Value) (h : List va_E) (Qa : Option Value → List va_E → Prop) : Prop :=
  Met l y (.code y cc maxL ret :: V.ts) (ax_R d mc ms) (va_Pc (As.map (ax_v G.ph)) (fun U => ax_K V G U ∧ ax_H V G h U.heap)) (ax_Q V G Qa) mc ms (fun q => G.bs ≤ q)
theorem ax_args (ph : Nat → Nat) : ∀ (i : Nat) (vs : List Value), lv_args i (vs.map (ax_v ph)) = ax_lv ph (lv_args i vs)
  | _, [] => rfl
  | i, v :: r => by
    show (i, ax_v ph v) :: lv_args _ (r.map (ax_v ph)) = (i, ax_v ph v) :: ax_lv ph (lv_args _ r)
    rw [ax_cat, ax_args]
theorem ax_sl (ph : Nat → Nat) : ∀ vs : List Value, (lg_sl (vs.map (ax_v ph))).length = (lg_sl vs).length
  | [] => rfl
  | v :: r => by
    have ih := ax_sl ph r
    unfold lg_sl at ih ⊢
    rw [List.map_cons, List.flatMap_cons, List.flatMap_cons, List.length_append, List.length_append, ih, ax_cat]
    by_cases hc : v.category = 2 <;> simp [hc]
section AXC
variable {p : Program} {l : Launch} {e : Env} {R : Room} {s : State} {m : MethodId} {args : Array Value} {below : List Frame} {meth : Method} {c : Code} {V : ax_V} {G : ax_G} {cc : ByteArray} {nL : Nat} {own : String} {pl : ax_pool} {ret : Option FieldType} {cells slots : Nat} {Q : State → Prop}
variable {pc : Nat} {lv : List (Nat × Value)} {r : List Value} {h : List va_E} {a t n j : Nat} {i : Int32}
theorem AM.of {y : MethodName} {maxL d mc ms : Nat} {As : List Value} {Qa : Option Value → List va_E → Prop} (hy : plainName y.cls = true) (hI : ax_I G) (hG : GoodIn V.ts V.ts) (hF : ax_F V y.cls pl.1) (hPL : ax_PL V y.cls pl.2.1) (hini : pl.2.2 = true → y.name = "<init>") (hs : (lg_sl As).length ≤ maxL)
    (body : ∀ (p : Program) (e : Env) (s : State) (m : MethodId) (args : Array Value) (below : List Frame) (meth : Method) (c : Code), ax_X p m meth c s args V G cc maxL y.cls pl ret →
      AW p l e (ax_R d mc ms) s m args below meth c V G maxL h 0 0 (MQ below (ax_Q V G Qa) args s mc ms (fun q => G.bs ≤ q)) 0 (lv_args 0 As) []) : AM l V G y cc maxL ret d mc ms As h Qa := by
  refine Met.ofW (cc := cc) (maxL := maxL) (ret := ret) hy rfl ?_
  intro p e s m args below meth c s₁ B hml hv
  obtain ⟨rfl, hK, hH⟩ := hv
  have hts := atoms_spec (ws := .code y cc maxL ret :: V.ts) B.pre
  have X : ax_X p m meth c s ((As.map (ax_v G.ph)).toArray) V G cc maxL y.cls pl ret := ⟨B.exec, B.bytes, hml, findClass_of_methodNamed B.named, fun w hw => hts w (List.mem_cons_of_mem _ hw), hK, hI, hF, hPL, hG, B.notSynchronized, B.returns, fun q => (name_of_methodNamed B.named B.method).1.trans (hini q)⟩
  have hl := lv_entry (As.map (ax_v G.ph)) (n := maxL) (by rw [ax_sl]; exact hs)
  rw [lg_entry_eq]
  generalize (lg_sl (As.map (ax_v G.ph)) ++ List.replicate (maxL - (lg_sl (As.map (ax_v G.ph))).length) Slot.unset).toArray = ls at hl ⊢
  rw [ax_args] at hl
  exact body p e s m _ below meth c X s.heap [] ls hH (fun q hq => by cases hq) hl
theorem AW.widen {k n : Nat} (h1 : cells ≤ k) (h2 : slots ≤ n) (kk : AW p l e R s m args below meth c V G nL h k n Q pc lv r) : AW p l e R s m args below meth c V G nL h cells slots Q pc lv r := fun H locs ls hH hl hv => W.widen h1 h2 (kk H locs ls hH hl hv)
theorem AW.eq {h' : List va_E} (e1 : h = h') (kk : AW p l e R s m args below meth c V G nL h' cells slots Q pc lv r) : AW p l e R s m args below meth c V G nL h cells slots Q pc lv r := e1 ▸ kk
/-- the locals may be forgotten and ordered anew -/
theorem AW.sub {lv' : List (Nat × Value)} (e1 : ∀ q ∈ lv', q ∈ lv) (kk : AW p l e R s m args below meth c V G nL h cells slots Q pc lv' r) : AW p l e R s m args below meth c V G nL h cells slots Q pc lv r := fun H locs ls hH hl hv => kk H locs ls hH hl ⟨hv.1, hv.2.1, fun q hq => by
  obtain ⟨q1, h1, h2⟩ := List.mem_map.mp hq
  exact hv.2.2 q (List.mem_map.mpr ⟨q1, e1 q1 h1, h2⟩)⟩
theorem AW.new (X : ax_X p m meth c s args V G cc nL own pl ret) {idx ci N : Nat} {C : String} {T : u_T} {fs : List Value} {ty : Nat → FieldType} (hc : V.cl[ci]? = some (C, T, N)) (hlay : ∀ w ∈ u_ws C T N, w ∈ V.ts) (hty : ∀ k, k < N → parseFieldDescriptor (T k).2.2.1 = some (ty k)) (hlink : Cond.classLink own idx C ∈ V.ts) (hinst : Cond.instantiable C N ∈ V.ts) (hini : Cond.initialized C ∈ V.ts) (hfs : ∀ j, j < N → defaultValue (ty j) = vp_V (fs.map (ax_v G.ph)) j) (hcells : cells + 1 ≤ R.cells) (hslots : slots + N ≤ R.slots) (hd : decode cc pc = .ok (.new idx, 3)) (kk : AW p l e R s m args below meth c V G nL (h ++ [.inr (ci, fs)]) (cells + 1) (slots + N) Q (pc + 3) lv (.ref h.length :: r)) : AW p l e R s m args below meth c V G nL h cells slots Q pc lv r := by
  intro H locs ls hH hl hv
  have hKn := X.k.u hc
  refine W.newcK X.x X.b X.ow (X.ts _ hlink) (X.ts _ hinst) (X.ts _ hini) rfl hd hcells hslots hKn.2.1 rfl fun H1 kC hkC e1 z1 o1 => ?_
  obtain ⟨g1, g2⟩ := ax_new (c := .inr (ci, fs)) X.i hH ⟨_, hc, (u_born ty X.ts hlay hKn hkC e1 hty).to hfs⟩ z1 o1
  have k1 := kk H1 locs ls g1 hl hv
  rw [List.map_cons, show ax_v G.ph (.ref h.length) = .ref (G.ph h.length) from rfl, g2] at k1
  exact k1
theorem AW.newa (X : ax_X p m meth c s args V G cc nL own pl ret) {atype : ArrayType} {x : Int32} {N : Nat} {a0 : (Nat → Int32) ⊕ (Nat → Int64) ⊕ (Nat → UInt32) ⊕ (Nat → UInt64) ⊕ (Nat → Option Nat)} (harr : Cond.arrayClass (newarray.typeOf atype) ∈ V.ts) (ht : V.tl[t]? = some (newarray.typeOf atype)) (ha : ∀ cA : ClassId, vp_cell cA (ax_a G.ph (N, a0)) = arrV cA N (fun _ => defaultValue (newarray.typeOf atype))) (hx : x = nI N) (hN : N < 2 ^ 16) (hcells : cells + 1 ≤ R.cells) (hslots : slots + N ≤ R.slots) (hprim : ∀ (cA : ClassId) (U : State), va_RA U cA (newarray.typeOf atype) → U.vm.findClass ("[" ++ (newarray.typeOf atype).toString) = some cA) (hd : decode cc pc = .ok (.newarray atype, 2)) (kk : AW p l e R s m args below meth c V G nL (h ++ [.inl (t, N, a0)]) (cells + 1) (slots + N) Q (pc + 2) lv (.ref h.length :: r)) : AW p l e R s m args below meth c V G nL h cells slots Q pc lv (.int x :: r) := by
  intro H locs ls hH hl hv
  subst hx
  refine va_newaK X.x X.b (X.ts _ harr) rfl hd (n := nI N) (N := N) rfl (nI_pos (by omega)) (nI_clamp (by omega)) (by have : componentBytes (newarray.typeOf atype) ≤ 8 := (by cases atype <;> decide); calc _ ≤ N * 8 := Nat.mul_le_mul_left _ this
    _ ≤ _ := by omega) hcells hslots rfl fun H1 cA e1 z1 o1 hA hfc => ?_
  have hcA : cA = G.ca t := Option.some.inj (hfc.symm.trans (hprim _ _ (X.k.2.1 t _ ht).2))
  subst hcA
  obtain ⟨g1, g2⟩ := ax_new (c := .inl (t, N, a0)) X.i hH (by show H1[H.size]? = some (vp_cell (G.ca t) (ax_a G.ph (N, a0))); rw [ha]; exact e1) z1 o1
  have k1 := kk H1 locs ls g1 hl hv
  rw [List.map_cons, show ax_v G.ph (.ref h.length) = .ref (G.ph h.length) from rfl, g2] at k1
  exact k1
theorem AW.objInit (X : ax_X p m meth c s args V G cc nL own pl ret) {idx : Nat} (hlink : Cond.methodLink own idx Lib.objectInit ∈ V.ts) (hinst : Cond.instanceMethod Lib.objectInit ∈ V.ts) (hcode : Cond.code Lib.objectInit ⟨#[0xb1]⟩ 1 none ∈ V.ts) (hd : decode cc pc = .ok (.invokespecial idx, 3)) (hframes : 1 ≤ R.frames) (hlocals : 20 ≤ R.locals) (hr : (r.map fun v => v.category).sum ≤ 8) (kk : AW p l e R s m args below meth c V G nL h cells slots Q (pc + 3) lv r) : AW p l e R s m args below meth c V G nL h cells slots Q pc lv (.ref a :: r) := by
  intro H locs ls hH hl hv
  refine W.objInit X.x X.b X.ow (X.ts _ hlink) (X.ts _ hinst) (X.ts _ hcode) rfl (by rw [X.ml]; exact hv.1) rfl hd hframes ?_ (kk H locs ls hH hl hv)
  have h1 := lv_room (m := m) (pc := pc) (ls := ls) (rest := (.ref a :: r).map (ax_v G.ph)) (st := r.map (ax_v G.ph)) (by rw [List.map_map]; exact (congrArg (fun f => (r.map f).sum) (funext fun v => ax_cat G.ph v)) ▸ hr)
  exact Nat.le_trans (Nat.add_le_add_right h1 12) hlocals
/-- what a call rests on -/
def ax_CB (V : ax_V) (own : String) (index : Nat) (y : MethodName) (bytes : ByteArray) (maxL : Nat) (ret : Option FieldType) (n : Nat) : Prop :=
  Cond.methodLink own index y ∈ V.ts ∧ Cond.initialized y.cls ∈ V.ts ∧ Cond.code y bytes maxL ret ∈ V.ts ∧ (y.cls ≠ "java/lang/invoke/MethodHandle" ∧ y.cls ≠ "java/lang/invoke/VarHandle" ∧ (parseMethodDescriptor y.desc).map (fun d => d.parameters.length) = some n)
theorem ax_CB.b (X : ax_X p m meth c s args V G cc nL own pl ret) {index : Nat} {y : MethodName} {bytes : ByteArray} {maxL d mc ms : Nat} {ret' : Option FieldType} (hw : ax_CB V own index y bytes maxL ret' n) (hR : d + 1 ≤ R.frames ∧ 19 + maxL + 40 * d ≤ R.locals) : CallB R s args own index y bytes maxL ret' (.code y bytes maxL ret' :: V.ts) (ax_R d mc ms) mc ms n := by
  obtain ⟨h1, h2, h3, h4⟩ := hw
  refine callB_of n X.ts (fun w hw => ?_) rfl rfl rfl (X.ts _ h2) (X.ts _ h1) h4 ⟨hR.1, ?_⟩
  · rcases List.mem_cons.mp hw with e1 | e1
    · rw [e1]; exact X.gd _ h3
    · exact X.gd _ e1
  · show 8 + (maxL + 11) + 40 * d ≤ R.locals
    omega
theorem ax_blind {As : List Value} : FrameBlind (va_Pc (As.map (ax_v G.ph)) (fun U => ax_K V G U ∧ ax_H V G h U.heap)) := fun a U g mk q => ⟨q.1, q.2.1.moved (U := U.calling g mk a) (Vm.Alike.refl U.vm), q.2.2⟩
theorem AW.callR {mc ms : Nat} {Qa : Option Value → List va_E → Prop} {st : List Value} {a' : Array Value} (hr : ∀ (H : Heap) (locs : List Loc) (ls : Array Slot), ax_H V G h H → lv_has ls nL (ax_lv G.ph lv) → va_Run p l e R s m args below meth c H locs cells slots mc ms (F0 m pc ls (st.map (ax_v G.ph))) (r.map (ax_v G.ph)) (ax_Q V G Qa a') (fun q => G.bs ≤ q))
    (kk : ∀ (v : Option Value) (h' : List va_E), Qa v h' → AW p l e R s m args below meth c V G nL h' (cells + mc) (slots + ms) Q (pc + 3) lv (v.toList ++ r)) : AW p l e R s m args below meth c V G nL h cells slots Q pc lv st := by
  intro H locs ls hH hl hv T hT X0
  obtain ⟨v, st₀, t, T', L, h0, X', hL, e1, e2, ⟨v', h', hv', hq, hH'⟩, st1⟩ := hr H locs ls hH hv T hT X0
  cases hv'
  obtain ⟨t2, a1, b1⟩ := kk v' h' hq t.heap (locs ++ L) ls hH' (fun q hq => by
    rcases List.mem_append.mp hq with z | z
    · exact hl q z
    · exact hL q z) hv T' e1 X'
  refine ⟨t2, st1 t2 ?_, b1⟩
  have e3 : (v'.map (ax_v G.ph)).toList ++ r.map (ax_v G.ph) = (v'.toList ++ r).map (ax_v G.ph) := by cases v' <;> rfl
  show Steps p.tables e below (T'.setTop (F0 m (pc + 3) ls ((v'.map (ax_v G.ph)).toList ++ r.map (ax_v G.ph)))) t2
  rw [e3]
  exact a1
theorem ax_rm8 {ls : Array Slot} {st : List Value} (hr : (r.map fun v => v.category).sum ≤ 8) : 2 * (F0 m pc ls st).monitorRoom + ((r.map (ax_v G.ph)).map fun v => v.category).sum ≤ 8 :=
  lv_room (by rw [List.map_map]; exact (congrArg (fun f => (r.map f).sum) (funext fun v => ax_cat G.ph v)) ▸ hr)
theorem AW.callS (X : ax_X p m meth c s args V G cc nL own pl ret) {index : Nat} {y : MethodName} {bytes : ByteArray} {maxL d mc ms : Nat} {ret' : Option FieldType} {As : List Value} {Qa : Option Value → List va_E → Prop} (hM : AM l V G y bytes maxL ret' d mc ms As h Qa) (hw : ax_CB V own index y bytes maxL ret' n) (hst : Cond.static y ∈ V.ts) (hn : As.length = n) (hR : d + 1 ≤ R.frames ∧ 19 + maxL + 40 * d ≤ R.locals) (hr : (r.map fun v => v.category).sum ≤ 8) (hf : cells + mc ≤ R.cells ∧ slots + ms ≤ R.slots) (hd : decode cc pc = .ok (.invokestatic index, 3))
    (kk : ∀ (v : Option Value) (h' : List va_E), Qa v h' → AW p l e R s m args below meth c V G nL h' (cells + mc) (slots + ms) Q (pc + 3) lv (v.toList ++ r)) : AW p l e R s m args below meth c V G nL h cells slots Q pc lv (As.reverse ++ r) :=
  AW.callR (fun H locs ls hH hv => va_runS (As := As.map (ax_v G.ph)) ⟨X.x, X.b, X.ml, X.ow, X.ts⟩ hM ⟨hw.b X hR, X.ts _ hst⟩ ⟨ax_blind, fun U hU hW => ⟨rfl, X.k.moved hW.alike, by rw [hU]; exact hH⟩⟩ rfl (by rw [List.length_map]; exact hn) hv.1 (by rw [List.map_append, List.map_reverse]) (ax_rm8 hr) hd hf) kk
theorem AW.callI (X : ax_X p m meth c s args V G cc nL own pl ret) {index : Nat} {y : MethodName} {bytes : ByteArray} {maxL d mc ms : Nat} {As : List Value} {Qa : Option Value → List va_E → Prop} (hM : AM l V G y bytes maxL none d mc ms (.ref a :: As) h Qa) (hw : ax_CB V own index y bytes maxL none n) (hy : y.name = "<init>") (hin : Cond.instanceMethod y ∈ V.ts) (hn : As.length = n) (hR : d + 1 ≤ R.frames ∧ 19 + maxL + 40 * d ≤ R.locals) (hr : (r.map fun v => v.category).sum ≤ 8) (hf : cells + mc ≤ R.cells ∧ slots + ms ≤ R.slots) (hd : decode cc pc = .ok (.invokespecial index, 3))
    (kk : ∀ (v : Option Value) (h' : List va_E), Qa v h' → AW p l e R s m args below meth c V G nL h' (cells + mc) (slots + ms) Q (pc + 3) lv (v.toList ++ r)) : AW p l e R s m args below meth c V G nL h cells slots Q pc lv (As.reverse ++ .ref a :: r) :=
  AW.callR (fun H locs ls hH hv => va_runI (b := G.ph a) (As := As.map (ax_v G.ph)) ⟨X.x, X.b, X.ml, X.ow, X.ts⟩ hM ⟨hw.b X hR, hy, X.ts _ hin⟩ ⟨ax_blind (As := .ref a :: As), fun U hU hW => ⟨rfl, X.k.moved hW.alike, by rw [hU]; exact hH⟩⟩ rfl (by rw [List.length_map]; exact hn) hv.1 (by rw [List.map_append, List.map_reverse]; rfl) (ax_rm8 hr) hd hf) kk
theorem AW.callV (X : ax_X p m meth c s args V G cc nL own pl ret) {index ci : Nat} {y : MethodName} {bytes : ByteArray} {maxL d mc ms : Nat} {ret' : Option FieldType} {As fs : List Value} {rc : vw_C} {Qa : Option Value → List va_E → Prop} (hM : AM l V G y bytes maxL ret' d mc ms (.ref a :: As) h Qa) (hw : ax_CB V own index y bytes maxL ret' n) (ha : h[a]? = some (.inr (ci, fs))) (hc : V.cl[ci]? = some rc) (hin : Cond.instanceMethod y ∈ V.ts) (hse : Cond.selects rc.1 y y ∈ V.ts) (hn : As.length = n) (hR : d + 1 ≤ R.frames ∧ 19 + maxL + 40 * d ≤ R.locals) (hr : (r.map fun v => v.category).sum ≤ 8) (hf : cells + mc ≤ R.cells ∧ slots + ms ≤ R.slots) (hd : decode cc pc = .ok (.invokevirtual index, 3))
    (kk : ∀ (v : Option Value) (h' : List va_E), Qa v h' → AW p l e R s m args below meth c V G nL h' (cells + mc) (slots + ms) Q (pc + 3) lv (v.toList ++ r)) : AW p l e R s m args below meth c V G nL h cells slots Q pc lv (As.reverse ++ .ref a :: r) :=
  AW.callR (fun H locs ls hH hv => va_runV (C := rc.1) (b := G.ph a) (As := As.map (ax_v G.ph)) ⟨X.x, X.b, X.ml, X.ow, X.ts⟩ hM ⟨hw.b X hR, X.ts _ hin, X.ts _ hse⟩ ⟨ax_blind (As := .ref a :: As), va_recv (q0 := 0) X.k.K (ax_P1 hH ha) hc rfl, fun U hU hW => ⟨rfl, X.k.moved hW.alike, by rw [hU]; exact hH⟩⟩ rfl (by rw [List.length_map]; exact hn) hv.1 (by rw [List.map_append, List.map_reverse]; rfl) (ax_rm8 hr) hd hf) kk
theorem AW.iret (X : ax_X p m meth c s args V G cc nL own pl (some .int)) {mc ms : Nat} {Qa : Option Value → List va_E → Prop}  (hd : decode cc pc = .ok (.ireturn, 1)) (h1 : cells ≤ mc) (h2 : slots ≤ ms) (hq : Qa (some (.int i)) h) : AW p l e R s m args below meth c V G nL h cells slots (MQ below (ax_Q V G Qa) args s mc ms (fun q => G.bs ≤ q)) pc lv [.int i] := by
  intro H locs ls hH hl hv
  refine W.widen h1 h2 ?_
  exact W.iret X.x X.b X.rt (fun t ht _ => ⟨some (.int i), h, rfl, hq, by rw [ht]; exact hH⟩) hl hd X.lk
theorem AW.lret (X : ax_X p m meth c s args V G cc nL own pl (some .long)) {mc ms : Nat} {Qa : Option Value → List va_E → Prop} {x : Int64} (hd : decode cc pc = .ok (.lreturn, 1)) (h1 : cells ≤ mc) (h2 : slots ≤ ms) (hq : Qa (some (.long x)) h) : AW p l e R s m args below meth c V G nL h cells slots (MQ below (ax_Q V G Qa) args s mc ms (fun q => G.bs ≤ q)) pc lv [.long x] := by
  intro H locs ls hH hl hv
  refine W.widen h1 h2 ?_
  exact W.lret X.x X.b X.rt (fun t ht _ => ⟨some (.long x), h, rfl, hq, by rw [ht]; exact hH⟩) hl hd X.lk
theorem AW.vret (X : ax_X p m meth c s args V G cc nL own pl none) {mc ms : Nat} {Qa : Option Value → List va_E → Prop}  (hd : decode cc pc = .ok (.return_, 1)) (h1 : cells ≤ mc) (h2 : slots ≤ ms) (hq : Qa none h) : AW p l e R s m args below meth c V G nL h cells slots (MQ below (ax_Q V G Qa) args s mc ms (fun q => G.bs ≤ q)) pc lv [] := by
  intro H locs ls hH hl hv
  refine W.widen h1 h2 ?_
  exact W.vret X.x X.b X.rt (fun t ht _ => ⟨none, h, rfl, hq, by rw [ht]; exact hH⟩) hl hd X.lk
theorem AW.zret (X : ax_X p m meth c s args V G cc nL own pl (some .boolean)) {mc ms : Nat} {Qa : Option Value → List va_E → Prop} (hz : narrow .boolean (.int i) = .int i) (hd : decode cc pc = .ok (.ireturn, 1)) (h1 : cells ≤ mc) (h2 : slots ≤ ms) (hq : Qa (some (.int i)) h) : AW p l e R s m args below meth c V G nL h cells slots (MQ below (ax_Q V G Qa) args s mc ms (fun q => G.bs ≤ q)) pc lv [.int i] := by
  intro H locs ls hH hl hv
  refine W.widen h1 h2 ?_
  exact W.zret X.x X.b X.rt hz (fun t ht _ => ⟨some (.int i), h, rfl, hq, by rw [ht]; exact hH⟩) hl hd X.lk
theorem AW.aret {C : String} (X : ax_X p m meth c s args V G cc nL own pl (some (.object C))) {mc ms : Nat} {Qa : Option Value → List va_E → Prop} (x : Option Nat) (hd : decode cc pc = .ok (.areturn, 1)) (h1 : cells ≤ mc) (h2 : slots ≤ ms) (hq : Qa (some (va_rf x)) h) : AW p l e R s m args below meth c V G nL h cells slots (MQ below (ax_Q V G Qa) args s mc ms (fun q => G.bs ≤ q)) pc lv [va_rf x] := by
  intro H locs ls hH hl hv
  refine W.widen h1 h2 ?_
  exact W.aret (v := ax_v G.ph (va_rf x)) X.x X.b X.rt (Or.inl ⟨_, rfl⟩) (by cases x; exact Or.inl rfl; exact Or.inr ⟨_, rfl⟩) (fun t ht _ => ⟨some (va_rf x), h, rfl, hq, by rw [ht]; exact hH⟩) hl hd X.lk
theorem AW.aretA {C : FieldType} (X : ax_X p m meth c s args V G cc nL own pl (some (.array C))) {mc ms : Nat} {Qa : Option Value → List va_E → Prop} (x : Option Nat) (hd : decode cc pc = .ok (.areturn, 1)) (h1 : cells ≤ mc) (h2 : slots ≤ ms) (hq : Qa (some (va_rf x)) h) : AW p l e R s m args below meth c V G nL h cells slots (MQ below (ax_Q V G Qa) args s mc ms (fun q => G.bs ≤ q)) pc lv [va_rf x] := by
  intro H locs ls hH hl hv
  refine W.widen h1 h2 ?_
  exact W.aret (v := ax_v G.ph (va_rf x)) X.x X.b X.rt (Or.inr ⟨_, rfl⟩) (by cases x; exact Or.inl rfl; exact Or.inr ⟨_, rfl⟩) (fun t ht _ => ⟨some (va_rf x), h, rfl, hq, by rw [ht]; exact hH⟩) hl hd X.lk
end AXC
end
