def fl_N : List (Nat × Nat × Nat) := [(95, 1, 0), (87, 1, 1), (133, 2, 0), (141, 2, 1), (9, 0, 0), (13, 0, 1), (20, 0, 2), (26, 0, 3), (30, 0, 4), (33, 0, 5), (37, 0, 6), (40, 0, 7), (46, 0, 8), (53, 0, 9), (60, 0, 10), (136, 5, 6), (136, 6, 1), (136, 7, 2), (136, 8, 7)]
def kl_N : List (Nat × Value) := [(144, .int (-1073741824)), (145, .int (1073741824))]
set_option maxRecDepth 100000 in
theorem fl_N_ok : ax_F VV "NumberFunctions" (ax_al fl_N) := ax_F_of (List.forall_mem_cons.mpr ⟨⟨_, _, _, "NumberFunctions$Telling", rfl, by decide, mt1 (List.mem_of_getElem? (i := 44) rfl), Or.inl rfl⟩, List.forall_mem_cons.mpr ⟨⟨_, _, _, "NumberFunctions$Telling", rfl, by decide, mt1 (List.mem_of_getElem? (i := 46) rfl), Or.inl rfl⟩, List.forall_mem_cons.mpr ⟨⟨_, _, _, "NumberFunctions$Fault", rfl, by decide, mt1 (List.mem_of_getElem? (i := 63) rfl), Or.inl rfl⟩, List.forall_mem_cons.mpr ⟨⟨_, _, _, "NumberFunctions$Fault", rfl, by decide, mt1 (List.mem_of_getElem? (i := 65) rfl), Or.inl rfl⟩, List.forall_mem_cons.mpr ⟨⟨_, _, _, "NumberFunctions", rfl, by decide, mt1 (List.mem_of_getElem? (i := 147) rfl), Or.inl rfl⟩, List.forall_mem_cons.mpr ⟨⟨_, _, _, "NumberFunctions", rfl, by decide, mt1 (List.mem_of_getElem? (i := 148) rfl), Or.inl rfl⟩, List.forall_mem_cons.mpr ⟨⟨_, _, _, "NumberFunctions", rfl, by decide, mt1 (List.mem_of_getElem? (i := 149) rfl), Or.inl rfl⟩, List.forall_mem_cons.mpr ⟨⟨_, _, _, "NumberFunctions", rfl, by decide, mt1 (List.mem_of_getElem? (i := 150) rfl), Or.inl rfl⟩, List.forall_mem_cons.mpr ⟨⟨_, _, _, "NumberFunctions", rfl, by decide, mt1 (List.mem_of_getElem? (i := 151) rfl), Or.inl rfl⟩, List.forall_mem_cons.mpr ⟨⟨_, _, _, "NumberFunctions", rfl, by decide, mt1 (List.mem_of_getElem? (i := 152) rfl), Or.inl rfl⟩, List.forall_mem_cons.mpr ⟨⟨_, _, _, "NumberFunctions", rfl, by decide, mt1 (List.mem_of_getElem? (i := 153) rfl), Or.inl rfl⟩, List.forall_mem_cons.mpr ⟨⟨_, _, _, "NumberFunctions", rfl, by decide, mt1 (List.mem_of_getElem? (i := 154) rfl), Or.inl rfl⟩, List.forall_mem_cons.mpr ⟨⟨_, _, _, "NumberFunctions", rfl, by decide, mt1 (List.mem_of_getElem? (i := 155) rfl), Or.inl rfl⟩, List.forall_mem_cons.mpr ⟨⟨_, _, _, "NumberFunctions", rfl, by decide, mt1 (List.mem_of_getElem? (i := 156) rfl), Or.inl rfl⟩, List.forall_mem_cons.mpr ⟨⟨_, _, _, "NumberFunctions", rfl, by decide, mt1 (List.mem_of_getElem? (i := 157) rfl), Or.inl rfl⟩, List.forall_mem_cons.mpr ⟨⟨_, _, _, "NumberFunctions$Function", rfl, by decide, mt2 (List.mem_of_getElem? (i := 187) rfl), Or.inl rfl⟩, List.forall_mem_cons.mpr ⟨⟨_, _, _, "NumberFunctions$Function", rfl, by decide, mt2 (List.mem_of_getElem? (i := 187) rfl), Or.inl rfl⟩, List.forall_mem_cons.mpr ⟨⟨_, _, _, "NumberFunctions$Function", rfl, by decide, mt2 (List.mem_of_getElem? (i := 187) rfl), Or.inl rfl⟩, List.forall_mem_cons.mpr ⟨⟨_, _, _, "NumberFunctions$Function", rfl, by decide, mt2 (List.mem_of_getElem? (i := 187) rfl), Or.inl rfl⟩, fun _ h => absurd h List.not_mem_nil⟩⟩⟩⟩⟩⟩⟩⟩⟩⟩⟩⟩⟩⟩⟩⟩⟩⟩⟩)
theorem kl_N_ok : ax_PL VV "NumberFunctions" (ax_kl kl_N) := ax_PL_of (List.forall_mem_cons.mpr ⟨mt2 (List.mem_of_getElem? (i := 50) rfl), List.forall_mem_cons.mpr ⟨mt2 (List.mem_of_getElem? (i := 51) rfl), fun _ h => absurd h List.not_mem_nil⟩⟩)
abbrev pl_N : ax_pool := (ax_al fl_N, ax_kl kl_N, false)
abbrev pi_N : ax_pool := (ax_al fl_N, ax_kl kl_N, true)
def fl_JObject : List (Nat × Nat × Nat) := []
def kl_JObject : List (Nat × Value) := []
set_option maxRecDepth 100000 in
theorem fl_JObject_ok : ax_F VV "java/lang/Object" (ax_al fl_JObject) := ax_F_of (fun _ h => absurd h List.not_mem_nil)
theorem kl_JObject_ok : ax_PL VV "java/lang/Object" (ax_kl kl_JObject) := ax_PL_of (fun _ h => absurd h List.not_mem_nil)
abbrev pl_JObject : ax_pool := (ax_al fl_JObject, ax_kl kl_JObject, false)
abbrev pi_JObject : ax_pool := (ax_al fl_JObject, ax_kl kl_JObject, true)
def fl_T : List (Nat × Nat × Nat) := [(9, 1, 0), (15, 1, 1), (38, 5, 5), (38, 6, 0), (38, 7, 1), (38, 8, 6), (43, 5, 6), (43, 6, 1), (43, 7, 2), (43, 8, 7)]
def kl_T : List (Nat × Value) := []
set_option maxRecDepth 100000 in
theorem fl_T_ok : ax_F VV "NumberFunctions$Telling" (ax_al fl_T) := ax_F_of (List.forall_mem_cons.mpr ⟨⟨_, _, _, "NumberFunctions$Telling", rfl, by decide, mt1 (List.mem_of_getElem? (i := 43) rfl), Or.inl rfl⟩, List.forall_mem_cons.mpr ⟨⟨_, _, _, "NumberFunctions$Telling", rfl, by decide, mt1 (List.mem_of_getElem? (i := 45) rfl), Or.inl rfl⟩, List.forall_mem_cons.mpr ⟨⟨_, _, _, "NumberFunctions$Function", rfl, by decide, mt2 (List.mem_of_getElem? (i := 178) rfl), Or.inl rfl⟩, List.forall_mem_cons.mpr ⟨⟨_, _, _, "NumberFunctions$Function", rfl, by decide, mt2 (List.mem_of_getElem? (i := 178) rfl), Or.inl rfl⟩, List.forall_mem_cons.mpr ⟨⟨_, _, _, "NumberFunctions$Function", rfl, by decide, mt2 (List.mem_of_getElem? (i := 178) rfl), Or.inl rfl⟩, List.forall_mem_cons.mpr ⟨⟨_, _, _, "NumberFunctions$Function", rfl, by decide, mt2 (List.mem_of_getElem? (i := 178) rfl), Or.inl rfl⟩, List.forall_mem_cons.mpr ⟨⟨_, _, _, "NumberFunctions$Function", rfl, by decide, mt2 (List.mem_of_getElem? (i := 186) rfl), Or.inl rfl⟩, List.forall_mem_cons.mpr ⟨⟨_, _, _, "NumberFunctions$Function", rfl, by decide, mt2 (List.mem_of_getElem? (i := 186) rfl), Or.inl rfl⟩, List.forall_mem_cons.mpr ⟨⟨_, _, _, "NumberFunctions$Function", rfl, by decide, mt2 (List.mem_of_getElem? (i := 186) rfl), Or.inl rfl⟩, List.forall_mem_cons.mpr ⟨⟨_, _, _, "NumberFunctions$Function", rfl, by decide, mt2 (List.mem_of_getElem? (i := 186) rfl), Or.inl rfl⟩, fun _ h => absurd h List.not_mem_nil⟩⟩⟩⟩⟩⟩⟩⟩⟩⟩)
theorem kl_T_ok : ax_PL VV "NumberFunctions$Telling" (ax_kl kl_T) := ax_PL_of (fun _ h => absurd h List.not_mem_nil)
abbrev pl_T : ax_pool := (ax_al fl_T, ax_kl kl_T, false)
abbrev pi_T : ax_pool := (ax_al fl_T, ax_kl kl_T, true)
def fl_U : List (Nat × Nat × Nat) := [(9, 2, 0), (15, 2, 1)]
def kl_U : List (Nat × Value) := []
set_option maxRecDepth 100000 in
theorem fl_U_ok : ax_F VV "NumberFunctions$Fault" (ax_al fl_U) := ax_F_of (List.forall_mem_cons.mpr ⟨⟨_, _, _, "NumberFunctions$Fault", rfl, by decide, mt1 (List.mem_of_getElem? (i := 62) rfl), Or.inl rfl⟩, List.forall_mem_cons.mpr ⟨⟨_, _, _, "NumberFunctions$Fault", rfl, by decide, mt1 (List.mem_of_getElem? (i := 64) rfl), Or.inl rfl⟩, fun _ h => absurd h List.not_mem_nil⟩⟩)
theorem kl_U_ok : ax_PL VV "NumberFunctions$Fault" (ax_kl kl_U) := ax_PL_of (fun _ h => absurd h List.not_mem_nil)
abbrev pl_U : ax_pool := (ax_al fl_U, ax_kl kl_U, false)
abbrev pi_U : ax_pool := (ax_al fl_U, ax_kl kl_U, true)
def fl_R : List (Nat × Nat × Nat) := [(11, 3, 0), (17, 3, 1), (21, 3, 2), (24, 3, 3), (47, 3, 4), (27, 3, 5), (30, 3, 6), (33, 3, 7), (36, 3, 8), (50, 3, 9), (39, 3, 10), (43, 3, 11), (89, 3, 12), (114, 13, 2)]
def kl_R : List (Nat × Value) := [(127, .int (65536)), (136, .long (10)), (138, .long (65536)), (140, .long (1000000000))]
set_option maxRecDepth 100000 in
theorem fl_R_ok : ax_F VV "NumberFunctions$Reader" (ax_al fl_R) := ax_F_of (List.forall_mem_cons.mpr ⟨⟨_, _, _, "NumberFunctions$Reader", rfl, by decide, mt1 (List.mem_of_getElem? (i := 79) rfl), Or.inl rfl⟩, List.forall_mem_cons.mpr ⟨⟨_, _, _, "NumberFunctions$Reader", rfl, by decide, mt1 (List.mem_of_getElem? (i := 81) rfl), Or.inl rfl⟩, List.forall_mem_cons.mpr ⟨⟨_, _, _, "NumberFunctions$Reader", rfl, by decide, mt1 (List.mem_of_getElem? (i := 83) rfl), Or.inl rfl⟩, List.forall_mem_cons.mpr ⟨⟨_, _, _, "NumberFunctions$Reader", rfl, by decide, mt1 (List.mem_of_getElem? (i := 85) rfl), Or.inl rfl⟩, List.forall_mem_cons.mpr ⟨⟨_, _, _, "NumberFunctions$Reader", rfl, by decide, mt1 (List.mem_of_getElem? (i := 88) rfl), Or.inl rfl⟩, List.forall_mem_cons.mpr ⟨⟨_, _, _, "NumberFunctions$Reader", rfl, by decide, mt1 (List.mem_of_getElem? (i := 89) rfl), Or.inl rfl⟩, List.forall_mem_cons.mpr ⟨⟨_, _, _, "NumberFunctions$Reader", rfl, by decide, mt1 (List.mem_of_getElem? (i := 90) rfl), Or.inl rfl⟩, List.forall_mem_cons.mpr ⟨⟨_, _, _, "NumberFunctions$Reader", rfl, by decide, mt1 (List.mem_of_getElem? (i := 91) rfl), Or.inl rfl⟩, List.forall_mem_cons.mpr ⟨⟨_, _, _, "NumberFunctions$Reader", rfl, by decide, mt1 (List.mem_of_getElem? (i := 92) rfl), Or.inl rfl⟩, List.forall_mem_cons.mpr ⟨⟨_, _, _, "NumberFunctions$Reader", rfl, by decide, mt1 (List.mem_of_getElem? (i := 93) rfl), Or.inl rfl⟩, List.forall_mem_cons.mpr ⟨⟨_, _, _, "NumberFunctions$Reader", rfl, by decide, mt1 (List.mem_of_getElem? (i := 94) rfl), Or.inl rfl⟩, List.forall_mem_cons.mpr ⟨⟨_, _, _, "NumberFunctions$Reader", rfl, by decide, mt1 (List.mem_of_getElem? (i := 95) rfl), Or.inl rfl⟩, List.forall_mem_cons.mpr ⟨⟨_, _, _, "NumberFunctions$Reader", rfl, by decide, mt1 (List.mem_of_getElem? (i := 96) rfl), Or.inl rfl⟩, List.forall_mem_cons.mpr ⟨⟨_, _, _, "NumberFunctions$Word", rfl, by decide, mt6 (List.mem_of_getElem? (i := 187) rfl), Or.inl rfl⟩, fun _ h => absurd h List.not_mem_nil⟩⟩⟩⟩⟩⟩⟩⟩⟩⟩⟩⟩⟩⟩)
theorem kl_R_ok : ax_PL VV "NumberFunctions$Reader" (ax_kl kl_R) := ax_PL_of (List.forall_mem_cons.mpr ⟨mt3 (List.mem_of_getElem? (i := 101) rfl), List.forall_mem_cons.mpr ⟨mt3 (List.mem_of_getElem? (i := 106) rfl), List.forall_mem_cons.mpr ⟨mt3 (List.mem_of_getElem? (i := 107) rfl), List.forall_mem_cons.mpr ⟨mt3 (List.mem_of_getElem? (i := 108) rfl), fun _ h => absurd h List.not_mem_nil⟩⟩⟩⟩)
abbrev pl_R : ax_pool := (ax_al fl_R, ax_kl kl_R, false)
abbrev pi_R : ax_pool := (ax_al fl_R, ax_kl kl_R, true)
def fl_K : List (Nat × Nat × Nat) := [(9, 4, 0), (15, 4, 1), (19, 4, 2), (192, 4, 3), (23, 13, 1), (28, 13, 2)]
def kl_K : List (Nat × Value) := [(117, .int (32768)), (141, .int (65536)), (154, .long (65536))]
set_option maxRecDepth 100000 in
theorem fl_K_ok : ax_F VV "NumberFunctions$Machine" (ax_al fl_K) := ax_F_of (List.forall_mem_cons.mpr ⟨⟨_, _, _, "NumberFunctions$Machine", rfl, by decide, mt1 (List.mem_of_getElem? (i := 130) rfl), Or.inl rfl⟩, List.forall_mem_cons.mpr ⟨⟨_, _, _, "NumberFunctions$Machine", rfl, by decide, mt1 (List.mem_of_getElem? (i := 132) rfl), Or.inl rfl⟩, List.forall_mem_cons.mpr ⟨⟨_, _, _, "NumberFunctions$Machine", rfl, by decide, mt1 (List.mem_of_getElem? (i := 133) rfl), Or.inl rfl⟩, List.forall_mem_cons.mpr ⟨⟨_, _, _, "NumberFunctions$Machine", rfl, by decide, mt1 (List.mem_of_getElem? (i := 136) rfl), Or.inl rfl⟩, List.forall_mem_cons.mpr ⟨⟨_, _, _, "NumberFunctions$Word", rfl, by decide, mt6 (List.mem_of_getElem? (i := 188) rfl), Or.inl rfl⟩, List.forall_mem_cons.mpr ⟨⟨_, _, _, "NumberFunctions$Word", rfl, by decide, mt6 (List.mem_of_getElem? (i := 189) rfl), Or.inl rfl⟩, fun _ h => absurd h List.not_mem_nil⟩⟩⟩⟩⟩⟩)
theorem kl_K_ok : ax_PL VV "NumberFunctions$Machine" (ax_kl kl_K) := ax_PL_of (List.forall_mem_cons.mpr ⟨mt4 (List.mem_of_getElem? (i := 34) rfl), List.forall_mem_cons.mpr ⟨mt4 (List.mem_of_getElem? (i := 67) rfl), List.forall_mem_cons.mpr ⟨mt4 (List.mem_of_getElem? (i := 77) rfl), fun _ h => absurd h List.not_mem_nil⟩⟩⟩)
abbrev pl_K : ax_pool := (ax_al fl_K, ax_kl kl_K, false)
abbrev pi_K : ax_pool := (ax_al fl_K, ax_kl kl_K, true)
def fl_L : List (Nat × Nat × Nat) := []
def kl_L : List (Nat × Value) := []
set_option maxRecDepth 100000 in
theorem fl_L_ok : ax_F VV "NumberFunctionsLaw" (ax_al fl_L) := ax_F_of (fun _ h => absurd h List.not_mem_nil)
theorem kl_L_ok : ax_PL VV "NumberFunctionsLaw" (ax_kl kl_L) := ax_PL_of (fun _ h => absurd h List.not_mem_nil)
abbrev pl_L : ax_pool := (ax_al fl_L, ax_kl kl_L, false)
abbrev pi_L : ax_pool := (ax_al fl_L, ax_kl kl_L, true)
def fl_JThrowable : List (Nat × Nat × Nat) := []
def kl_JThrowable : List (Nat × Value) := []
set_option maxRecDepth 100000 in
theorem fl_JThrowable_ok : ax_F VV "java/lang/Throwable" (ax_al fl_JThrowable) := ax_F_of (fun _ h => absurd h List.not_mem_nil)
theorem kl_JThrowable_ok : ax_PL VV "java/lang/Throwable" (ax_kl kl_JThrowable) := ax_PL_of (fun _ h => absurd h List.not_mem_nil)
abbrev pl_JThrowable : ax_pool := (ax_al fl_JThrowable, ax_kl kl_JThrowable, false)
abbrev pi_JThrowable : ax_pool := (ax_al fl_JThrowable, ax_kl kl_JThrowable, true)
def fl_JIllegalArgumentException : List (Nat × Nat × Nat) := []
def kl_JIllegalArgumentException : List (Nat × Value) := []
set_option maxRecDepth 100000 in
theorem fl_JIllegalArgumentException_ok : ax_F VV "java/lang/IllegalArgumentException" (ax_al fl_JIllegalArgumentException) := ax_F_of (fun _ h => absurd h List.not_mem_nil)
theorem kl_JIllegalArgumentException_ok : ax_PL VV "java/lang/IllegalArgumentException" (ax_kl kl_JIllegalArgumentException) := ax_PL_of (fun _ h => absurd h List.not_mem_nil)
abbrev pl_JIllegalArgumentException : ax_pool := (ax_al fl_JIllegalArgumentException, ax_kl kl_JIllegalArgumentException, false)
abbrev pi_JIllegalArgumentException : ax_pool := (ax_al fl_JIllegalArgumentException, ax_kl kl_JIllegalArgumentException, true)
def fl_JRuntimeException : List (Nat × Nat × Nat) := []
def kl_JRuntimeException : List (Nat × Value) := []
set_option maxRecDepth 100000 in
theorem fl_JRuntimeException_ok : ax_F VV "java/lang/RuntimeException" (ax_al fl_JRuntimeException) := ax_F_of (fun _ h => absurd h List.not_mem_nil)
theorem kl_JRuntimeException_ok : ax_PL VV "java/lang/RuntimeException" (ax_kl kl_JRuntimeException) := ax_PL_of (fun _ h => absurd h List.not_mem_nil)
abbrev pl_JRuntimeException : ax_pool := (ax_al fl_JRuntimeException, ax_kl kl_JRuntimeException, false)
abbrev pi_JRuntimeException : ax_pool := (ax_al fl_JRuntimeException, ax_kl kl_JRuntimeException, true)
def fl_JException : List (Nat × Nat × Nat) := []
def kl_JException : List (Nat × Value) := []
set_option maxRecDepth 100000 in
theorem fl_JException_ok : ax_F VV "java/lang/Exception" (ax_al fl_JException) := ax_F_of (fun _ h => absurd h List.not_mem_nil)
theorem kl_JException_ok : ax_PL VV "java/lang/Exception" (ax_kl kl_JException) := ax_PL_of (fun _ h => absurd h List.not_mem_nil)
abbrev pl_JException : ax_pool := (ax_al fl_JException, ax_kl kl_JException, false)
abbrev pi_JException : ax_pool := (ax_al fl_JException, ax_kl kl_JException, true)
def fl_JMath : List (Nat × Nat × Nat) := []
def kl_JMath : List (Nat × Value) := []
set_option maxRecDepth 100000 in
theorem fl_JMath_ok : ax_F VV "java/lang/Math" (ax_al fl_JMath) := ax_F_of (fun _ h => absurd h List.not_mem_nil)
theorem kl_JMath_ok : ax_PL VV "java/lang/Math" (ax_kl kl_JMath) := ax_PL_of (fun _ h => absurd h List.not_mem_nil)
abbrev pl_JMath : ax_pool := (ax_al fl_JMath, ax_kl kl_JMath, false)
abbrev pi_JMath : ax_pool := (ax_al fl_JMath, ax_kl kl_JMath, true)
def fl_JIllegalStateException : List (Nat × Nat × Nat) := []
def kl_JIllegalStateException : List (Nat × Value) := []
set_option maxRecDepth 100000 in
theorem fl_JIllegalStateException_ok : ax_F VV "java/lang/IllegalStateException" (ax_al fl_JIllegalStateException) := ax_F_of (fun _ h => absurd h List.not_mem_nil)
theorem kl_JIllegalStateException_ok : ax_PL VV "java/lang/IllegalStateException" (ax_kl kl_JIllegalStateException) := ax_PL_of (fun _ h => absurd h List.not_mem_nil)
abbrev pl_JIllegalStateException : ax_pool := (ax_al fl_JIllegalStateException, ax_kl kl_JIllegalStateException, false)
abbrev pi_JIllegalStateException : ax_pool := (ax_al fl_JIllegalStateException, ax_kl kl_JIllegalStateException, true)
def fl_JArrays : List (Nat × Nat × Nat) := []
def kl_JArrays : List (Nat × Value) := []
set_option maxRecDepth 100000 in
theorem fl_JArrays_ok : ax_F VV "java/util/Arrays" (ax_al fl_JArrays) := ax_F_of (fun _ h => absurd h List.not_mem_nil)
theorem kl_JArrays_ok : ax_PL VV "java/util/Arrays" (ax_kl kl_JArrays) := ax_PL_of (fun _ h => absurd h List.not_mem_nil)
abbrev pl_JArrays : ax_pool := (ax_al fl_JArrays, ax_kl kl_JArrays, false)
abbrev pi_JArrays : ax_pool := (ax_al fl_JArrays, ax_kl kl_JArrays, true)
def fl_S : List (Nat × Nat × Nat) := [(22, 5, 0), (26, 5, 1), (9, 5, 2), (15, 5, 3), (18, 5, 4), (30, 5, 5), (39, 5, 6), (46, 5, 7)]
def kl_S : List (Nat × Value) := [(37, .long (65536)), (63, .int (65536)), (76, .long (2))]
set_option maxRecDepth 100000 in
theorem fl_S_ok : ax_F VV "NumberFunctions$Samples" (ax_al fl_S) := ax_F_of (List.forall_mem_cons.mpr ⟨⟨_, _, _, "NumberFunctions$Samples", rfl, by decide, mt2 (List.mem_of_getElem? (i := 168) rfl), Or.inl rfl⟩, List.forall_mem_cons.mpr ⟨⟨_, _, _, "NumberFunctions$Samples", rfl, by decide, mt2 (List.mem_of_getElem? (i := 169) rfl), Or.inl rfl⟩, List.forall_mem_cons.mpr ⟨⟨_, _, _, "NumberFunctions$Samples", rfl, by decide, mt2 (List.mem_of_getElem? (i := 170) rfl), Or.inl rfl⟩, List.forall_mem_cons.mpr ⟨⟨_, _, _, "NumberFunctions$Samples", rfl, by decide, mt2 (List.mem_of_getElem? (i := 171) rfl), Or.inl rfl⟩, List.forall_mem_cons.mpr ⟨⟨_, _, _, "NumberFunctions$Samples", rfl, by decide, mt2 (List.mem_of_getElem? (i := 172) rfl), Or.inl rfl⟩, List.forall_mem_cons.mpr ⟨⟨_, _, _, "NumberFunctions$Samples", rfl, by decide, mt2 (List.mem_of_getElem? (i := 176) rfl), Or.inr (mt2 (List.mem_of_getElem? (i := 177) rfl))⟩, List.forall_mem_cons.mpr ⟨⟨_, _, _, "NumberFunctions$Samples", rfl, by decide, mt2 (List.mem_of_getElem? (i := 184) rfl), Or.inr (mt2 (List.mem_of_getElem? (i := 185) rfl))⟩, List.forall_mem_cons.mpr ⟨⟨_, _, _, "NumberFunctions$Samples", rfl, by decide, mt2 (List.mem_of_getElem? (i := 193) rfl), Or.inr (mt2 (List.mem_of_getElem? (i := 194) rfl))⟩, fun _ h => absurd h List.not_mem_nil⟩⟩⟩⟩⟩⟩⟩⟩)
theorem kl_S_ok : ax_PL VV "NumberFunctions$Samples" (ax_kl kl_S) := ax_PL_of (List.forall_mem_cons.mpr ⟨mt4 (List.mem_of_getElem? (i := 162) rfl), List.forall_mem_cons.mpr ⟨mt4 (List.mem_of_getElem? (i := 164) rfl), List.forall_mem_cons.mpr ⟨mt4 (List.mem_of_getElem? (i := 178) rfl), fun _ h => absurd h List.not_mem_nil⟩⟩⟩)
abbrev pl_S : ax_pool := (ax_al fl_S, ax_kl kl_S, false)
abbrev pi_S : ax_pool := (ax_al fl_S, ax_kl kl_S, true)
def fl_F : List (Nat × Nat × Nat) := [(7, 5, 5), (7, 6, 0), (7, 7, 1), (7, 8, 6), (13, 5, 6), (13, 6, 1), (13, 7, 2), (13, 8, 7), (16, 5, 7), (16, 6, 2), (16, 7, 3), (16, 8, 8)]
def kl_F : List (Nat × Value) := []
set_option maxRecDepth 100000 in
theorem fl_F_ok : ax_F VV "NumberFunctions$Function" (ax_al fl_F) := ax_F_of (List.forall_mem_cons.mpr ⟨⟨_, _, _, "NumberFunctions$Function", rfl, by decide, mt2 (List.mem_of_getElem? (i := 173) rfl), Or.inl rfl⟩, List.forall_mem_cons.mpr ⟨⟨_, _, _, "NumberFunctions$Function", rfl, by decide, mt2 (List.mem_of_getElem? (i := 173) rfl), Or.inl rfl⟩, List.forall_mem_cons.mpr ⟨⟨_, _, _, "NumberFunctions$Function", rfl, by decide, mt2 (List.mem_of_getElem? (i := 173) rfl), Or.inl rfl⟩, List.forall_mem_cons.mpr ⟨⟨_, _, _, "NumberFunctions$Function", rfl, by decide, mt2 (List.mem_of_getElem? (i := 173) rfl), Or.inl rfl⟩, List.forall_mem_cons.mpr ⟨⟨_, _, _, "NumberFunctions$Function", rfl, by decide, mt2 (List.mem_of_getElem? (i := 179) rfl), Or.inl rfl⟩, List.forall_mem_cons.mpr ⟨⟨_, _, _, "NumberFunctions$Function", rfl, by decide, mt2 (List.mem_of_getElem? (i := 179) rfl), Or.inl rfl⟩, List.forall_mem_cons.mpr ⟨⟨_, _, _, "NumberFunctions$Function", rfl, by decide, mt2 (List.mem_of_getElem? (i := 179) rfl), Or.inl rfl⟩, List.forall_mem_cons.mpr ⟨⟨_, _, _, "NumberFunctions$Function", rfl, by decide, mt2 (List.mem_of_getElem? (i := 179) rfl), Or.inl rfl⟩, List.forall_mem_cons.mpr ⟨⟨_, _, _, "NumberFunctions$Function", rfl, by decide, mt2 (List.mem_of_getElem? (i := 188) rfl), Or.inl rfl⟩, List.forall_mem_cons.mpr ⟨⟨_, _, _, "NumberFunctions$Function", rfl, by decide, mt2 (List.mem_of_getElem? (i := 188) rfl), Or.inl rfl⟩, List.forall_mem_cons.mpr ⟨⟨_, _, _, "NumberFunctions$Function", rfl, by decide, mt2 (List.mem_of_getElem? (i := 188) rfl), Or.inl rfl⟩, List.forall_mem_cons.mpr ⟨⟨_, _, _, "NumberFunctions$Function", rfl, by decide, mt2 (List.mem_of_getElem? (i := 188) rfl), Or.inl rfl⟩, fun _ h => absurd h List.not_mem_nil⟩⟩⟩⟩⟩⟩⟩⟩⟩⟩⟩⟩)
theorem kl_F_ok : ax_PL VV "NumberFunctions$Function" (ax_kl kl_F) := ax_PL_of (fun _ h => absurd h List.not_mem_nil)
abbrev pl_F : ax_pool := (ax_al fl_F, ax_kl kl_F, false)
abbrev pi_F : ax_pool := (ax_al fl_F, ax_kl kl_F, true)
def fl_P : List (Nat × Nat × Nat) := [(25, 6, 1), (16, 6, 2)]
def kl_P : List (Nat × Value) := [(15, .int (65536))]
set_option maxRecDepth 100000 in
theorem fl_P_ok : ax_F VV "NumberFunctions$Powers" (ax_al fl_P) := ax_F_of (List.forall_mem_cons.mpr ⟨⟨_, _, _, "NumberFunctions$Powers", rfl, by decide, mt2 (List.mem_of_getElem? (i := 180) rfl), Or.inr (mt2 (List.mem_of_getElem? (i := 181) rfl))⟩, List.forall_mem_cons.mpr ⟨⟨_, _, _, "NumberFunctions$Powers", rfl, by decide, mt2 (List.mem_of_getElem? (i := 189) rfl), Or.inr (mt2 (List.mem_of_getElem? (i := 190) rfl))⟩, fun _ h => absurd h List.not_mem_nil⟩⟩)
theorem kl_P_ok : ax_PL VV "NumberFunctions$Powers" (ax_kl kl_P) := ax_PL_of (List.forall_mem_cons.mpr ⟨mt3 (List.mem_of_getElem? (i := 211) rfl), fun _ h => absurd h List.not_mem_nil⟩)
abbrev pl_P : ax_pool := (ax_al fl_P, ax_kl kl_P, false)
abbrev pi_P : ax_pool := (ax_al fl_P, ax_kl kl_P, true)
def fl_Z : List (Nat × Nat × Nat) := [(19, 7, 3), (9, 7, 0)]
def kl_Z : List (Nat × Value) := []
set_option maxRecDepth 100000 in
theorem fl_Z_ok : ax_F VV "NumberFunctions$Stitched" (ax_al fl_Z) := ax_F_of (List.forall_mem_cons.mpr ⟨⟨_, _, _, "NumberFunctions$Stitched", rfl, by decide, mt2 (List.mem_of_getElem? (i := 191) rfl), Or.inr (mt2 (List.mem_of_getElem? (i := 192) rfl))⟩, List.forall_mem_cons.mpr ⟨⟨_, _, _, "NumberFunctions$Stitched", rfl, by decide, mt2 (List.mem_of_getElem? (i := 230) rfl), Or.inl rfl⟩, fun _ h => absurd h List.not_mem_nil⟩⟩)
theorem kl_Z_ok : ax_PL VV "NumberFunctions$Stitched" (ax_kl kl_Z) := ax_PL_of (fun _ h => absurd h List.not_mem_nil)
abbrev pl_Z : ax_pool := (ax_al fl_Z, ax_kl kl_Z, false)
abbrev pi_Z : ax_pool := (ax_al fl_Z, ax_kl kl_Z, true)
def fl_O : List (Nat × Nat × Nat) := [(142, 13, 0)]
def kl_O : List (Nat × Value) := []
set_option maxRecDepth 100000 in
theorem fl_O_ok : ax_F VV "NumberFunctions$Word" (ax_al fl_O) := ax_F_of (List.forall_mem_cons.mpr ⟨⟨_, _, _, "NumberFunctions$Word", rfl, by decide, mt6 (List.mem_of_getElem? (i := 184) rfl), Or.inl rfl⟩, fun _ h => absurd h List.not_mem_nil⟩)
theorem kl_O_ok : ax_PL VV "NumberFunctions$Word" (ax_kl kl_O) := ax_PL_of (fun _ h => absurd h List.not_mem_nil)
abbrev pl_O : ax_pool := (ax_al fl_O, ax_kl kl_O, false)
abbrev pi_O : ax_pool := (ax_al fl_O, ax_kl kl_O, true)
def fl_JString : List (Nat × Nat × Nat) := [(9, 14, 0), (15, 14, 1)]
def kl_JString : List (Nat × Value) := []
set_option maxRecDepth 100000 in
theorem fl_JString_ok : ax_F VV "java/lang/String" (ax_al fl_JString) := ax_F_of (List.forall_mem_cons.mpr ⟨⟨_, _, _, "java/lang/String", rfl, by decide, mt6 (List.mem_of_getElem? (i := 185) rfl), Or.inl rfl⟩, List.forall_mem_cons.mpr ⟨⟨_, _, _, "java/lang/String", rfl, by decide, mt6 (List.mem_of_getElem? (i := 186) rfl), Or.inl rfl⟩, fun _ h => absurd h List.not_mem_nil⟩⟩)
theorem kl_JString_ok : ax_PL VV "java/lang/String" (ax_kl kl_JString) := ax_PL_of (fun _ h => absurd h List.not_mem_nil)
abbrev pl_JString : ax_pool := (ax_al fl_JString, ax_kl kl_JString, false)
abbrev pi_JString : ax_pool := (ax_al fl_JString, ax_kl kl_JString, true)
def fl_JStringLatin1 : List (Nat × Nat × Nat) := []
def kl_JStringLatin1 : List (Nat × Value) := []
set_option maxRecDepth 100000 in
theorem fl_JStringLatin1_ok : ax_F VV "java/lang/StringLatin1" (ax_al fl_JStringLatin1) := ax_F_of (fun _ h => absurd h List.not_mem_nil)
theorem kl_JStringLatin1_ok : ax_PL VV "java/lang/StringLatin1" (ax_kl kl_JStringLatin1) := ax_PL_of (fun _ h => absurd h List.not_mem_nil)
abbrev pl_JStringLatin1 : ax_pool := (ax_al fl_JStringLatin1, ax_kl kl_JStringLatin1, false)
abbrev pi_JStringLatin1 : ax_pool := (ax_al fl_JStringLatin1, ax_kl kl_JStringLatin1, true)
def fl_JPreconditions : List (Nat × Nat × Nat) := []
def kl_JPreconditions : List (Nat × Value) := []
set_option maxRecDepth 100000 in
theorem fl_JPreconditions_ok : ax_F VV "jdk/internal/util/Preconditions" (ax_al fl_JPreconditions) := ax_F_of (fun _ h => absurd h List.not_mem_nil)
theorem kl_JPreconditions_ok : ax_PL VV "jdk/internal/util/Preconditions" (ax_kl kl_JPreconditions) := ax_PL_of (fun _ h => absurd h List.not_mem_nil)
abbrev pl_JPreconditions : ax_pool := (ax_al fl_JPreconditions, ax_kl kl_JPreconditions, false)
abbrev pi_JPreconditions : ax_pool := (ax_al fl_JPreconditions, ax_kl kl_JPreconditions, true)
def fl_JStringUTF16 : List (Nat × Nat × Nat) := []
def kl_JStringUTF16 : List (Nat × Value) := []
set_option maxRecDepth 100000 in
theorem fl_JStringUTF16_ok : ax_F VV "java/lang/StringUTF16" (ax_al fl_JStringUTF16) := ax_F_of (fun _ h => absurd h List.not_mem_nil)
theorem kl_JStringUTF16_ok : ax_PL VV "java/lang/StringUTF16" (ax_kl kl_JStringUTF16) := ax_PL_of (fun _ h => absurd h List.not_mem_nil)
abbrev pl_JStringUTF16 : ax_pool := (ax_al fl_JStringUTF16, ax_kl kl_JStringUTF16, false)
abbrev pi_JStringUTF16 : ax_pool := (ax_al fl_JStringUTF16, ax_kl kl_JStringUTF16, true)
def fl_G : List (Nat × Nat × Nat) := [(28, 3, 0), (35, 3, 1), (46, 3, 2), (50, 3, 3), (15, 3, 4), (98, 4, 0), (54, 4, 2), (83, 4, 3), (59, 8, 6), (91, 8, 7), (21, 8, 0), (24, 8, 1), (45, 8, 2), (49, 8, 3), (53, 8, 4), (9, 8, 5), (80, 13, 2)]
def kl_G : List (Nat × Value) := []
set_option maxRecDepth 100000 in
theorem fl_G_ok : ax_F VV "NumberFunctions$Program" (ax_al fl_G) := ax_F_of (List.forall_mem_cons.mpr ⟨⟨_, _, _, "NumberFunctions$Reader", rfl, by decide, mt1 (List.mem_of_getElem? (i := 80) rfl), Or.inl rfl⟩, List.forall_mem_cons.mpr ⟨⟨_, _, _, "NumberFunctions$Reader", rfl, by decide, mt1 (List.mem_of_getElem? (i := 82) rfl), Or.inl rfl⟩, List.forall_mem_cons.mpr ⟨⟨_, _, _, "NumberFunctions$Reader", rfl, by decide, mt1 (List.mem_of_getElem? (i := 84) rfl), Or.inl rfl⟩, List.forall_mem_cons.mpr ⟨⟨_, _, _, "NumberFunctions$Reader", rfl, by decide, mt1 (List.mem_of_getElem? (i := 86) rfl), Or.inl rfl⟩, List.forall_mem_cons.mpr ⟨⟨_, _, _, "NumberFunctions$Reader", rfl, by decide, mt1 (List.mem_of_getElem? (i := 87) rfl), Or.inl rfl⟩, List.forall_mem_cons.mpr ⟨⟨_, _, _, "NumberFunctions$Machine", rfl, by decide, mt1 (List.mem_of_getElem? (i := 131) rfl), Or.inl rfl⟩, List.forall_mem_cons.mpr ⟨⟨_, _, _, "NumberFunctions$Machine", rfl, by decide, mt1 (List.mem_of_getElem? (i := 134) rfl), Or.inl rfl⟩, List.forall_mem_cons.mpr ⟨⟨_, _, _, "NumberFunctions$Machine", rfl, by decide, mt1 (List.mem_of_getElem? (i := 135) rfl), Or.inl rfl⟩, List.forall_mem_cons.mpr ⟨⟨_, _, _, "NumberFunctions$Program", rfl, by decide, mt2 (List.mem_of_getElem? (i := 174) rfl), Or.inr (mt2 (List.mem_of_getElem? (i := 175) rfl))⟩, List.forall_mem_cons.mpr ⟨⟨_, _, _, "NumberFunctions$Program", rfl, by decide, mt2 (List.mem_of_getElem? (i := 182) rfl), Or.inr (mt2 (List.mem_of_getElem? (i := 183) rfl))⟩, List.forall_mem_cons.mpr ⟨⟨_, _, _, "NumberFunctions$Program", rfl, by decide, mt3 (List.mem_of_getElem? (i := 135) rfl), Or.inl rfl⟩, List.forall_mem_cons.mpr ⟨⟨_, _, _, "NumberFunctions$Program", rfl, by decide, mt3 (List.mem_of_getElem? (i := 136) rfl), Or.inl rfl⟩, List.forall_mem_cons.mpr ⟨⟨_, _, _, "NumberFunctions$Program", rfl, by decide, mt3 (List.mem_of_getElem? (i := 137) rfl), Or.inl rfl⟩, List.forall_mem_cons.mpr ⟨⟨_, _, _, "NumberFunctions$Program", rfl, by decide, mt3 (List.mem_of_getElem? (i := 138) rfl), Or.inl rfl⟩, List.forall_mem_cons.mpr ⟨⟨_, _, _, "NumberFunctions$Program", rfl, by decide, mt3 (List.mem_of_getElem? (i := 139) rfl), Or.inl rfl⟩, List.forall_mem_cons.mpr ⟨⟨_, _, _, "NumberFunctions$Program", rfl, by decide, mt3 (List.mem_of_getElem? (i := 140) rfl), Or.inl rfl⟩, List.forall_mem_cons.mpr ⟨⟨_, _, _, "NumberFunctions$Word", rfl, by decide, mt6 (List.mem_of_getElem? (i := 191) rfl), Or.inl rfl⟩, fun _ h => absurd h List.not_mem_nil⟩⟩⟩⟩⟩⟩⟩⟩⟩⟩⟩⟩⟩⟩⟩⟩⟩)
theorem kl_G_ok : ax_PL VV "NumberFunctions$Program" (ax_kl kl_G) := ax_PL_of (fun _ h => absurd h List.not_mem_nil)
abbrev pl_G : ax_pool := (ax_al fl_G, ax_kl kl_G, false)
abbrev pi_G : ax_pool := (ax_al fl_G, ax_kl kl_G, true)
def fl_JIndexOutOfBoundsException : List (Nat × Nat × Nat) := []
def kl_JIndexOutOfBoundsException : List (Nat × Value) := []
set_option maxRecDepth 100000 in
theorem fl_JIndexOutOfBoundsException_ok : ax_F VV "java/lang/IndexOutOfBoundsException" (ax_al fl_JIndexOutOfBoundsException) := ax_F_of (fun _ h => absurd h List.not_mem_nil)
theorem kl_JIndexOutOfBoundsException_ok : ax_PL VV "java/lang/IndexOutOfBoundsException" (ax_kl kl_JIndexOutOfBoundsException) := ax_PL_of (fun _ h => absurd h List.not_mem_nil)
abbrev pl_JIndexOutOfBoundsException : ax_pool := (ax_al fl_JIndexOutOfBoundsException, ax_kl kl_JIndexOutOfBoundsException, false)
abbrev pi_JIndexOutOfBoundsException : ax_pool := (ax_al fl_JIndexOutOfBoundsException, ax_kl kl_JIndexOutOfBoundsException, true)
def fl_B : List (Nat × Nat × Nat) := []
def kl_B : List (Nat × Value) := [(18, .long (1073741824)), (20, .int (1073741824)), (21, .long (-1073741824)), (23, .int (-1073741824)), (35, .int (-65536)), (30, .long (65536))]
set_option maxRecDepth 100000 in
theorem fl_B_ok : ax_F VV "NumberFunctions$Numbers" (ax_al fl_B) := ax_F_of (fun _ h => absurd h List.not_mem_nil)
theorem kl_B_ok : ax_PL VV "NumberFunctions$Numbers" (ax_kl kl_B) := ax_PL_of (List.forall_mem_cons.mpr ⟨mt3 (List.mem_of_getElem? (i := 218) rfl), List.forall_mem_cons.mpr ⟨mt3 (List.mem_of_getElem? (i := 219) rfl), List.forall_mem_cons.mpr ⟨mt3 (List.mem_of_getElem? (i := 220) rfl), List.forall_mem_cons.mpr ⟨mt3 (List.mem_of_getElem? (i := 221) rfl), List.forall_mem_cons.mpr ⟨mt4 (List.mem_of_getElem? (i := 33) rfl), List.forall_mem_cons.mpr ⟨mt4 (List.mem_of_getElem? (i := 55) rfl), fun _ h => absurd h List.not_mem_nil⟩⟩⟩⟩⟩⟩)
abbrev pl_B : ax_pool := (ax_al fl_B, ax_kl kl_B, false)
abbrev pi_B : ax_pool := (ax_al fl_B, ax_kl kl_B, true)
def fl_JEnum : List (Nat × Nat × Nat) := [(7, 13, 3)]
def kl_JEnum : List (Nat × Value) := []
set_option maxRecDepth 100000 in
theorem fl_JEnum_ok : ax_F VV "java/lang/Enum" (ax_al fl_JEnum) := ax_F_of (List.forall_mem_cons.mpr ⟨⟨_, _, _, "java/lang/Enum", rfl, by decide, mt6 (List.mem_of_getElem? (i := 190) rfl), Or.inl rfl⟩, fun _ h => absurd h List.not_mem_nil⟩)
theorem kl_JEnum_ok : ax_PL VV "java/lang/Enum" (ax_kl kl_JEnum) := ax_PL_of (fun _ h => absurd h List.not_mem_nil)
abbrev pl_JEnum : ax_pool := (ax_al fl_JEnum, ax_kl kl_JEnum, false)
abbrev pi_JEnum : ax_pool := (ax_al fl_JEnum, ax_kl kl_JEnum, true)
def fl_M : List (Nat × Nat × Nat) := [(78, 9, 0), (81, 9, 1), (7, 9, 2), (96, 9, 3), (13, 9, 4), (17, 9, 5), (20, 9, 6), (23, 9, 7), (27, 9, 8), (99, 9, 9), (30, 9, 10), (33, 9, 11), (36, 9, 12), (39, 9, 13), (42, 9, 14), (46, 9, 15), (49, 9, 16), (53, 9, 17), (56, 9, 18), (59, 9, 19), (174, 9, 20), (62, 9, 21), (65, 9, 22), (168, 9, 23), (171, 9, 24), (353, 9, 25), (68, 9, 26), (71, 9, 27), (75, 9, 28), (373, 9, 29), (346, 9, 30), (307, 9, 31)]
def kl_M : List (Nat × Value) := [(45, .int (196608)), (88, .long (-1073741824)), (90, .long (1073741824)), (102, .long (3)), (123, .long (4)), (128, .long (64)), (130, .long (16)), (132, .long (8)), (147, .long (7)), (211, .long (1000000000)), (213, .long (10)), (215, .long (48)), (217, .long (16384)), (114, .long (65536)), (226, .long (16383)), (415, .long (32768)), (411, .long (16777216)), (413, .long (2)), (442, .long (-1)), (444, .long (-2031616)), (446, .long (2031616)), (460, .long (60))]
set_option maxRecDepth 100000 in
theorem fl_M_ok : ax_F VV "NumberFunctionsModel" (ax_al fl_M) := ax_F_of (List.forall_mem_cons.mpr ⟨⟨_, _, _, "NumberFunctionsModel", rfl, by decide, mt4 (List.mem_of_getElem? (i := 206) rfl), Or.inl rfl⟩, List.forall_mem_cons.mpr ⟨⟨_, _, _, "NumberFunctionsModel", rfl, by decide, mt4 (List.mem_of_getElem? (i := 207) rfl), Or.inl rfl⟩, List.forall_mem_cons.mpr ⟨⟨_, _, _, "NumberFunctionsModel", rfl, by decide, mt4 (List.mem_of_getElem? (i := 208) rfl), Or.inl rfl⟩, List.forall_mem_cons.mpr ⟨⟨_, _, _, "NumberFunctionsModel", rfl, by decide, mt4 (List.mem_of_getElem? (i := 209) rfl), Or.inl rfl⟩, List.forall_mem_cons.mpr ⟨⟨_, _, _, "NumberFunctionsModel", rfl, by decide, mt4 (List.mem_of_getElem? (i := 210) rfl), Or.inl rfl⟩, List.forall_mem_cons.mpr ⟨⟨_, _, _, "NumberFunctionsModel", rfl, by decide, mt4 (List.mem_of_getElem? (i := 211) rfl), Or.inl rfl⟩, List.forall_mem_cons.mpr ⟨⟨_, _, _, "NumberFunctionsModel", rfl, by decide, mt4 (List.mem_of_getElem? (i := 212) rfl), Or.inl rfl⟩, List.forall_mem_cons.mpr ⟨⟨_, _, _, "NumberFunctionsModel", rfl, by decide, mt4 (List.mem_of_getElem? (i := 213) rfl), Or.inl rfl⟩, List.forall_mem_cons.mpr ⟨⟨_, _, _, "NumberFunctionsModel", rfl, by decide, mt4 (List.mem_of_getElem? (i := 214) rfl), Or.inl rfl⟩, List.forall_mem_cons.mpr ⟨⟨_, _, _, "NumberFunctionsModel", rfl, by decide, mt4 (List.mem_of_getElem? (i := 215) rfl), Or.inl rfl⟩, List.forall_mem_cons.mpr ⟨⟨_, _, _, "NumberFunctionsModel", rfl, by decide, mt4 (List.mem_of_getElem? (i := 216) rfl), Or.inl rfl⟩, List.forall_mem_cons.mpr ⟨⟨_, _, _, "NumberFunctionsModel", rfl, by decide, mt4 (List.mem_of_getElem? (i := 217) rfl), Or.inl rfl⟩, List.forall_mem_cons.mpr ⟨⟨_, _, _, "NumberFunctionsModel", rfl, by decide, mt4 (List.mem_of_getElem? (i := 218) rfl), Or.inl rfl⟩, List.forall_mem_cons.mpr ⟨⟨_, _, _, "NumberFunctionsModel", rfl, by decide, mt4 (List.mem_of_getElem? (i := 219) rfl), Or.inl rfl⟩, List.forall_mem_cons.mpr ⟨⟨_, _, _, "NumberFunctionsModel", rfl, by decide, mt4 (List.mem_of_getElem? (i := 220) rfl), Or.inl rfl⟩, List.forall_mem_cons.mpr ⟨⟨_, _, _, "NumberFunctionsModel", rfl, by decide, mt4 (List.mem_of_getElem? (i := 221) rfl), Or.inl rfl⟩, List.forall_mem_cons.mpr ⟨⟨_, _, _, "NumberFunctionsModel", rfl, by decide, mt4 (List.mem_of_getElem? (i := 222) rfl), Or.inl rfl⟩, List.forall_mem_cons.mpr ⟨⟨_, _, _, "NumberFunctionsModel", rfl, by decide, mt4 (List.mem_of_getElem? (i := 223) rfl), Or.inl rfl⟩, List.forall_mem_cons.mpr ⟨⟨_, _, _, "NumberFunctionsModel", rfl, by decide, mt4 (List.mem_of_getElem? (i := 224) rfl), Or.inl rfl⟩, List.forall_mem_cons.mpr ⟨⟨_, _, _, "NumberFunctionsModel", rfl, by decide, mt4 (List.mem_of_getElem? (i := 225) rfl), Or.inl rfl⟩, List.forall_mem_cons.mpr ⟨⟨_, _, _, "NumberFunctionsModel", rfl, by decide, mt4 (List.mem_of_getElem? (i := 226) rfl), Or.inl rfl⟩, List.forall_mem_cons.mpr ⟨⟨_, _, _, "NumberFunctionsModel", rfl, by decide, mt4 (List.mem_of_getElem? (i := 227) rfl), Or.inl rfl⟩, List.forall_mem_cons.mpr ⟨⟨_, _, _, "NumberFunctionsModel", rfl, by decide, mt4 (List.mem_of_getElem? (i := 228) rfl), Or.inl rfl⟩, List.forall_mem_cons.mpr ⟨⟨_, _, _, "NumberFunctionsModel", rfl, by decide, mt4 (List.mem_of_getElem? (i := 229) rfl), Or.inl rfl⟩, List.forall_mem_cons.mpr ⟨⟨_, _, _, "NumberFunctionsModel", rfl, by decide, mt4 (List.mem_of_getElem? (i := 230) rfl), Or.inl rfl⟩, List.forall_mem_cons.mpr ⟨⟨_, _, _, "NumberFunctionsModel", rfl, by decide, mt4 (List.mem_of_getElem? (i := 231) rfl), Or.inl rfl⟩, List.forall_mem_cons.mpr ⟨⟨_, _, _, "NumberFunctionsModel", rfl, by decide, mt4 (List.mem_of_getElem? (i := 232) rfl), Or.inl rfl⟩, List.forall_mem_cons.mpr ⟨⟨_, _, _, "NumberFunctionsModel", rfl, by decide, mt4 (List.mem_of_getElem? (i := 233) rfl), Or.inl rfl⟩, List.forall_mem_cons.mpr ⟨⟨_, _, _, "NumberFunctionsModel", rfl, by decide, mt4 (List.mem_of_getElem? (i := 234) rfl), Or.inl rfl⟩, List.forall_mem_cons.mpr ⟨⟨_, _, _, "NumberFunctionsModel", rfl, by decide, mt4 (List.mem_of_getElem? (i := 235) rfl), Or.inl rfl⟩, List.forall_mem_cons.mpr ⟨⟨_, _, _, "NumberFunctionsModel", rfl, by decide, mt4 (List.mem_of_getElem? (i := 236) rfl), Or.inl rfl⟩, List.forall_mem_cons.mpr ⟨⟨_, _, _, "NumberFunctionsModel", rfl, by decide, mt4 (List.mem_of_getElem? (i := 237) rfl), Or.inl rfl⟩, fun _ h => absurd h List.not_mem_nil⟩⟩⟩⟩⟩⟩⟩⟩⟩⟩⟩⟩⟩⟩⟩⟩⟩⟩⟩⟩⟩⟩⟩⟩⟩⟩⟩⟩⟩⟩⟩⟩)
theorem kl_M_ok : ax_PL VV "NumberFunctionsModel" (ax_kl kl_M) := ax_PL_of (List.forall_mem_cons.mpr ⟨mt4 (List.mem_of_getElem? (i := 205) rfl), List.forall_mem_cons.mpr ⟨mt5 (List.mem_of_getElem? (i := 83) rfl), List.forall_mem_cons.mpr ⟨mt5 (List.mem_of_getElem? (i := 84) rfl), List.forall_mem_cons.mpr ⟨mt5 (List.mem_of_getElem? (i := 100) rfl), List.forall_mem_cons.mpr ⟨mt5 (List.mem_of_getElem? (i := 116) rfl), List.forall_mem_cons.mpr ⟨mt5 (List.mem_of_getElem? (i := 133) rfl), List.forall_mem_cons.mpr ⟨mt5 (List.mem_of_getElem? (i := 138) rfl), List.forall_mem_cons.mpr ⟨mt5 (List.mem_of_getElem? (i := 143) rfl), List.forall_mem_cons.mpr ⟨mt5 (List.mem_of_getElem? (i := 152) rfl), List.forall_mem_cons.mpr ⟨mt5 (List.mem_of_getElem? (i := 191) rfl), List.forall_mem_cons.mpr ⟨mt5 (List.mem_of_getElem? (i := 192) rfl), List.forall_mem_cons.mpr ⟨mt5 (List.mem_of_getElem? (i := 193) rfl), List.forall_mem_cons.mpr ⟨mt5 (List.mem_of_getElem? (i := 194) rfl), List.forall_mem_cons.mpr ⟨mt5 (List.mem_of_getElem? (i := 195) rfl), List.forall_mem_cons.mpr ⟨mt5 (List.mem_of_getElem? (i := 196) rfl), List.forall_mem_cons.mpr ⟨mt6 (List.mem_of_getElem? (i := 104) rfl), List.forall_mem_cons.mpr ⟨mt6 (List.mem_of_getElem? (i := 111) rfl), List.forall_mem_cons.mpr ⟨mt6 (List.mem_of_getElem? (i := 112) rfl), List.forall_mem_cons.mpr ⟨mt6 (List.mem_of_getElem? (i := 144) rfl), List.forall_mem_cons.mpr ⟨mt6 (List.mem_of_getElem? (i := 149) rfl), List.forall_mem_cons.mpr ⟨mt6 (List.mem_of_getElem? (i := 150) rfl), List.forall_mem_cons.mpr ⟨mt6 (List.mem_of_getElem? (i := 167) rfl), fun _ h => absurd h List.not_mem_nil⟩⟩⟩⟩⟩⟩⟩⟩⟩⟩⟩⟩⟩⟩⟩⟩⟩⟩⟩⟩⟩⟩)
abbrev pl_M : ax_pool := (ax_al fl_M, ax_kl kl_M, false)
abbrev pi_M : ax_pool := (ax_al fl_M, ax_kl kl_M, true)
