set_option maxRecDepth 100000 in
theorem L_N : ax_L VV "NumberFunctions" Cl_N 11 := ⟨List.forall_mem_cons.mpr ⟨mt1 (List.mem_of_getElem? (i := 158) rfl), List.forall_mem_cons.mpr ⟨mt1 (List.mem_of_getElem? (i := 160) rfl), List.forall_mem_cons.mpr ⟨mt1 (List.mem_of_getElem? (i := 162) rfl), List.forall_mem_cons.mpr ⟨mt1 (List.mem_of_getElem? (i := 164) rfl), List.forall_mem_cons.mpr ⟨mt1 (List.mem_of_getElem? (i := 166) rfl), List.forall_mem_cons.mpr ⟨mt1 (List.mem_of_getElem? (i := 168) rfl), List.forall_mem_cons.mpr ⟨mt1 (List.mem_of_getElem? (i := 170) rfl), List.forall_mem_cons.mpr ⟨mt1 (List.mem_of_getElem? (i := 172) rfl), List.forall_mem_cons.mpr ⟨mt1 (List.mem_of_getElem? (i := 174) rfl), List.forall_mem_cons.mpr ⟨mt1 (List.mem_of_getElem? (i := 176) rfl), List.forall_mem_cons.mpr ⟨mt1 (List.mem_of_getElem? (i := 178) rfl), fun _ h => absurd h List.not_mem_nil⟩⟩⟩⟩⟩⟩⟩⟩⟩⟩⟩, ⟨Ty_N, by decide +kernel⟩, by decide +kernel, 11, mt1 (List.mem_of_getElem? (i := 30) rfl)⟩
theorem N_N : Cond.instantiable "NumberFunctions" 11 ∈ VV.ts := mt1 (List.mem_of_getElem? (i := 30) rfl)
theorem I_N : Cond.initialized "NumberFunctions" ∈ VV.ts := mt1 (List.mem_of_getElem? (i := 1) rfl)
set_option maxRecDepth 100000 in
theorem L_T : ax_L VV "NumberFunctions$Telling" Cl_T 2 := ⟨List.forall_mem_cons.mpr ⟨mt1 (List.mem_of_getElem? (i := 47) rfl), List.forall_mem_cons.mpr ⟨mt1 (List.mem_of_getElem? (i := 49) rfl), fun _ h => absurd h List.not_mem_nil⟩⟩, ⟨Ty_T, by decide +kernel⟩, by decide +kernel, 2, mt1 (List.mem_of_getElem? (i := 38) rfl)⟩
theorem N_T : Cond.instantiable "NumberFunctions$Telling" 2 ∈ VV.ts := mt1 (List.mem_of_getElem? (i := 38) rfl)
theorem I_T : Cond.initialized "NumberFunctions$Telling" ∈ VV.ts := mt1 (List.mem_of_getElem? (i := 2) rfl)
set_option maxRecDepth 100000 in
theorem L_U : ax_L VV "NumberFunctions$Fault" Cl_U 2 := ⟨List.forall_mem_cons.mpr ⟨mt1 (List.mem_of_getElem? (i := 66) rfl), List.forall_mem_cons.mpr ⟨mt1 (List.mem_of_getElem? (i := 68) rfl), fun _ h => absurd h List.not_mem_nil⟩⟩, ⟨Ty_U, by decide +kernel⟩, by decide +kernel, 2, mt1 (List.mem_of_getElem? (i := 57) rfl)⟩
theorem N_U : Cond.instantiable "NumberFunctions$Fault" 2 ∈ VV.ts := mt1 (List.mem_of_getElem? (i := 57) rfl)
theorem I_U : Cond.initialized "NumberFunctions$Fault" ∈ VV.ts := mt1 (List.mem_of_getElem? (i := 3) rfl)
set_option maxRecDepth 100000 in
theorem L_R : ax_L VV "NumberFunctions$Reader" Cl_R 13 := ⟨List.forall_mem_cons.mpr ⟨mt1 (List.mem_of_getElem? (i := 97) rfl), List.forall_mem_cons.mpr ⟨mt1 (List.mem_of_getElem? (i := 99) rfl), List.forall_mem_cons.mpr ⟨mt1 (List.mem_of_getElem? (i := 101) rfl), List.forall_mem_cons.mpr ⟨mt1 (List.mem_of_getElem? (i := 103) rfl), List.forall_mem_cons.mpr ⟨mt1 (List.mem_of_getElem? (i := 105) rfl), List.forall_mem_cons.mpr ⟨mt1 (List.mem_of_getElem? (i := 107) rfl), List.forall_mem_cons.mpr ⟨mt1 (List.mem_of_getElem? (i := 109) rfl), List.forall_mem_cons.mpr ⟨mt1 (List.mem_of_getElem? (i := 111) rfl), List.forall_mem_cons.mpr ⟨mt1 (List.mem_of_getElem? (i := 113) rfl), List.forall_mem_cons.mpr ⟨mt1 (List.mem_of_getElem? (i := 115) rfl), List.forall_mem_cons.mpr ⟨mt1 (List.mem_of_getElem? (i := 117) rfl), List.forall_mem_cons.mpr ⟨mt1 (List.mem_of_getElem? (i := 119) rfl), List.forall_mem_cons.mpr ⟨mt1 (List.mem_of_getElem? (i := 121) rfl), fun _ h => absurd h List.not_mem_nil⟩⟩⟩⟩⟩⟩⟩⟩⟩⟩⟩⟩⟩, ⟨Ty_R, by decide +kernel⟩, by decide +kernel, 13, mt1 (List.mem_of_getElem? (i := 72) rfl)⟩
theorem N_R : Cond.instantiable "NumberFunctions$Reader" 13 ∈ VV.ts := mt1 (List.mem_of_getElem? (i := 72) rfl)
theorem I_R : Cond.initialized "NumberFunctions$Reader" ∈ VV.ts := mt1 (List.mem_of_getElem? (i := 4) rfl)
set_option maxRecDepth 100000 in
theorem L_K : ax_L VV "NumberFunctions$Machine" Cl_K 4 := ⟨List.forall_mem_cons.mpr ⟨mt1 (List.mem_of_getElem? (i := 137) rfl), List.forall_mem_cons.mpr ⟨mt1 (List.mem_of_getElem? (i := 139) rfl), List.forall_mem_cons.mpr ⟨mt1 (List.mem_of_getElem? (i := 141) rfl), List.forall_mem_cons.mpr ⟨mt1 (List.mem_of_getElem? (i := 143) rfl), fun _ h => absurd h List.not_mem_nil⟩⟩⟩⟩, ⟨Ty_K, by decide +kernel⟩, by decide +kernel, 4, mt1 (List.mem_of_getElem? (i := 125) rfl)⟩
theorem N_K : Cond.instantiable "NumberFunctions$Machine" 4 ∈ VV.ts := mt1 (List.mem_of_getElem? (i := 125) rfl)
theorem I_K : Cond.initialized "NumberFunctions$Machine" ∈ VV.ts := mt1 (List.mem_of_getElem? (i := 5) rfl)
set_option maxRecDepth 100000 in
theorem L_S : ax_L VV "NumberFunctions$Samples" Cl_S 8 := ⟨List.forall_mem_cons.mpr ⟨mt2 (List.mem_of_getElem? (i := 195) rfl), List.forall_mem_cons.mpr ⟨mt2 (List.mem_of_getElem? (i := 197) rfl), List.forall_mem_cons.mpr ⟨mt2 (List.mem_of_getElem? (i := 199) rfl), List.forall_mem_cons.mpr ⟨mt2 (List.mem_of_getElem? (i := 201) rfl), List.forall_mem_cons.mpr ⟨mt2 (List.mem_of_getElem? (i := 203) rfl), List.forall_mem_cons.mpr ⟨mt2 (List.mem_of_getElem? (i := 205) rfl), List.forall_mem_cons.mpr ⟨mt2 (List.mem_of_getElem? (i := 207) rfl), List.forall_mem_cons.mpr ⟨mt2 (List.mem_of_getElem? (i := 209) rfl), fun _ h => absurd h List.not_mem_nil⟩⟩⟩⟩⟩⟩⟩⟩, ⟨Ty_S, by decide +kernel⟩, by decide +kernel, 8, mt2 (List.mem_of_getElem? (i := 152) rfl)⟩
theorem N_S : Cond.instantiable "NumberFunctions$Samples" 8 ∈ VV.ts := mt2 (List.mem_of_getElem? (i := 152) rfl)
theorem I_S : Cond.initialized "NumberFunctions$Samples" ∈ VV.ts := mt1 (List.mem_of_getElem? (i := 16) rfl)
set_option maxRecDepth 100000 in
theorem L_P : ax_L VV "NumberFunctions$Powers" Cl_P 3 := ⟨List.forall_mem_cons.mpr ⟨mt2 (List.mem_of_getElem? (i := 219) rfl), List.forall_mem_cons.mpr ⟨mt2 (List.mem_of_getElem? (i := 220) rfl), List.forall_mem_cons.mpr ⟨mt2 (List.mem_of_getElem? (i := 221) rfl), fun _ h => absurd h List.not_mem_nil⟩⟩⟩, ⟨Ty_P, by decide +kernel⟩, by decide +kernel, 3, mt2 (List.mem_of_getElem? (i := 214) rfl)⟩
theorem N_P : Cond.instantiable "NumberFunctions$Powers" 3 ∈ VV.ts := mt2 (List.mem_of_getElem? (i := 214) rfl)
theorem I_P : Cond.initialized "NumberFunctions$Powers" ∈ VV.ts := mt1 (List.mem_of_getElem? (i := 17) rfl)
set_option maxRecDepth 100000 in
theorem L_Z : ax_L VV "NumberFunctions$Stitched" Cl_Z 4 := ⟨List.forall_mem_cons.mpr ⟨mt2 (List.mem_of_getElem? (i := 231) rfl), List.forall_mem_cons.mpr ⟨mt2 (List.mem_of_getElem? (i := 233) rfl), List.forall_mem_cons.mpr ⟨mt2 (List.mem_of_getElem? (i := 234) rfl), List.forall_mem_cons.mpr ⟨mt2 (List.mem_of_getElem? (i := 235) rfl), fun _ h => absurd h List.not_mem_nil⟩⟩⟩⟩, ⟨Ty_Z, by decide +kernel⟩, by decide +kernel, 4, mt2 (List.mem_of_getElem? (i := 224) rfl)⟩
theorem N_Z : Cond.instantiable "NumberFunctions$Stitched" 4 ∈ VV.ts := mt2 (List.mem_of_getElem? (i := 224) rfl)
theorem I_Z : Cond.initialized "NumberFunctions$Stitched" ∈ VV.ts := mt1 (List.mem_of_getElem? (i := 18) rfl)
set_option maxRecDepth 100000 in
theorem L_G : ax_L VV "NumberFunctions$Program" Cl_G 9 := ⟨List.forall_mem_cons.mpr ⟨mt3 (List.mem_of_getElem? (i := 141) rfl), List.forall_mem_cons.mpr ⟨mt3 (List.mem_of_getElem? (i := 143) rfl), List.forall_mem_cons.mpr ⟨mt3 (List.mem_of_getElem? (i := 145) rfl), List.forall_mem_cons.mpr ⟨mt3 (List.mem_of_getElem? (i := 147) rfl), List.forall_mem_cons.mpr ⟨mt3 (List.mem_of_getElem? (i := 149) rfl), List.forall_mem_cons.mpr ⟨mt3 (List.mem_of_getElem? (i := 151) rfl), List.forall_mem_cons.mpr ⟨mt3 (List.mem_of_getElem? (i := 153) rfl), List.forall_mem_cons.mpr ⟨mt3 (List.mem_of_getElem? (i := 154) rfl), List.forall_mem_cons.mpr ⟨mt3 (List.mem_of_getElem? (i := 155) rfl), fun _ h => absurd h List.not_mem_nil⟩⟩⟩⟩⟩⟩⟩⟩⟩, ⟨Ty_G, by decide +kernel⟩, by decide +kernel, 9, mt3 (List.mem_of_getElem? (i := 127) rfl)⟩
theorem N_G : Cond.instantiable "NumberFunctions$Program" 9 ∈ VV.ts := mt3 (List.mem_of_getElem? (i := 127) rfl)
theorem I_G : Cond.initialized "NumberFunctions$Program" ∈ VV.ts := mt1 (List.mem_of_getElem? (i := 25) rfl)
set_option maxRecDepth 100000 in
theorem L_M : ax_L VV "NumberFunctionsModel" Cl_M 32 := ⟨List.forall_mem_cons.mpr ⟨mt4 (List.mem_of_getElem? (i := 238) rfl), List.forall_mem_cons.mpr ⟨mt5 (List.mem_of_getElem? (i := 0) rfl), List.forall_mem_cons.mpr ⟨mt5 (List.mem_of_getElem? (i := 2) rfl), List.forall_mem_cons.mpr ⟨mt5 (List.mem_of_getElem? (i := 4) rfl), List.forall_mem_cons.mpr ⟨mt5 (List.mem_of_getElem? (i := 6) rfl), List.forall_mem_cons.mpr ⟨mt5 (List.mem_of_getElem? (i := 8) rfl), List.forall_mem_cons.mpr ⟨mt5 (List.mem_of_getElem? (i := 10) rfl), List.forall_mem_cons.mpr ⟨mt5 (List.mem_of_getElem? (i := 12) rfl), List.forall_mem_cons.mpr ⟨mt5 (List.mem_of_getElem? (i := 14) rfl), List.forall_mem_cons.mpr ⟨mt5 (List.mem_of_getElem? (i := 16) rfl), List.forall_mem_cons.mpr ⟨mt5 (List.mem_of_getElem? (i := 18) rfl), List.forall_mem_cons.mpr ⟨mt5 (List.mem_of_getElem? (i := 20) rfl), List.forall_mem_cons.mpr ⟨mt5 (List.mem_of_getElem? (i := 22) rfl), List.forall_mem_cons.mpr ⟨mt5 (List.mem_of_getElem? (i := 24) rfl), List.forall_mem_cons.mpr ⟨mt5 (List.mem_of_getElem? (i := 26) rfl), List.forall_mem_cons.mpr ⟨mt5 (List.mem_of_getElem? (i := 28) rfl), List.forall_mem_cons.mpr ⟨mt5 (List.mem_of_getElem? (i := 30) rfl), List.forall_mem_cons.mpr ⟨mt5 (List.mem_of_getElem? (i := 32) rfl), List.forall_mem_cons.mpr ⟨mt5 (List.mem_of_getElem? (i := 34) rfl), List.forall_mem_cons.mpr ⟨mt5 (List.mem_of_getElem? (i := 36) rfl), List.forall_mem_cons.mpr ⟨mt5 (List.mem_of_getElem? (i := 38) rfl), List.forall_mem_cons.mpr ⟨mt5 (List.mem_of_getElem? (i := 40) rfl), List.forall_mem_cons.mpr ⟨mt5 (List.mem_of_getElem? (i := 42) rfl), List.forall_mem_cons.mpr ⟨mt5 (List.mem_of_getElem? (i := 44) rfl), List.forall_mem_cons.mpr ⟨mt5 (List.mem_of_getElem? (i := 46) rfl), List.forall_mem_cons.mpr ⟨mt5 (List.mem_of_getElem? (i := 48) rfl), List.forall_mem_cons.mpr ⟨mt5 (List.mem_of_getElem? (i := 50) rfl), List.forall_mem_cons.mpr ⟨mt5 (List.mem_of_getElem? (i := 52) rfl), List.forall_mem_cons.mpr ⟨mt5 (List.mem_of_getElem? (i := 54) rfl), List.forall_mem_cons.mpr ⟨mt5 (List.mem_of_getElem? (i := 56) rfl), List.forall_mem_cons.mpr ⟨mt5 (List.mem_of_getElem? (i := 58) rfl), List.forall_mem_cons.mpr ⟨mt5 (List.mem_of_getElem? (i := 60) rfl), fun _ h => absurd h List.not_mem_nil⟩⟩⟩⟩⟩⟩⟩⟩⟩⟩⟩⟩⟩⟩⟩⟩⟩⟩⟩⟩⟩⟩⟩⟩⟩⟩⟩⟩⟩⟩⟩⟩, ⟨Ty_M, by decide +kernel⟩, by decide +kernel, 32, mt4 (List.mem_of_getElem? (i := 200) rfl)⟩
theorem N_M : Cond.instantiable "NumberFunctionsModel" 32 ∈ VV.ts := mt4 (List.mem_of_getElem? (i := 200) rfl)
theorem I_M : Cond.initialized "NumberFunctionsModel" ∈ VV.ts := mt1 (List.mem_of_getElem? (i := 6) rfl)
set_option maxRecDepth 100000 in
theorem L_EA : ax_L VV "java/lang/IllegalArgumentException" Cl_EA 6 := ⟨List.forall_mem_cons.mpr ⟨mt1 (List.mem_of_getElem? (i := 220) rfl), List.forall_mem_cons.mpr ⟨mt1 (List.mem_of_getElem? (i := 222) rfl), List.forall_mem_cons.mpr ⟨mt1 (List.mem_of_getElem? (i := 224) rfl), List.forall_mem_cons.mpr ⟨mt1 (List.mem_of_getElem? (i := 226) rfl), List.forall_mem_cons.mpr ⟨mt1 (List.mem_of_getElem? (i := 228) rfl), List.forall_mem_cons.mpr ⟨mt2 (List.mem_of_getElem? (i := 32) rfl), fun _ h => absurd h List.not_mem_nil⟩⟩⟩⟩⟩⟩, ⟨Ty_EA, by decide +kernel⟩, by decide +kernel, 6, mt1 (List.mem_of_getElem? (i := 210) rfl)⟩
theorem N_EA : Cond.instantiable "java/lang/IllegalArgumentException" 6 ∈ VV.ts := mt1 (List.mem_of_getElem? (i := 210) rfl)
theorem I_EA : Cond.initialized "java/lang/IllegalArgumentException" ∈ VV.ts := mt1 (List.mem_of_getElem? (i := 10) rfl)
set_option maxRecDepth 100000 in
theorem L_ES : ax_L VV "java/lang/IllegalStateException" Cl_ES 6 := ⟨List.forall_mem_cons.mpr ⟨mt2 (List.mem_of_getElem? (i := 57) rfl), List.forall_mem_cons.mpr ⟨mt2 (List.mem_of_getElem? (i := 58) rfl), List.forall_mem_cons.mpr ⟨mt2 (List.mem_of_getElem? (i := 59) rfl), List.forall_mem_cons.mpr ⟨mt2 (List.mem_of_getElem? (i := 60) rfl), List.forall_mem_cons.mpr ⟨mt2 (List.mem_of_getElem? (i := 61) rfl), List.forall_mem_cons.mpr ⟨mt2 (List.mem_of_getElem? (i := 67) rfl), fun _ h => absurd h List.not_mem_nil⟩⟩⟩⟩⟩⟩, ⟨Ty_ES, by decide +kernel⟩, by decide +kernel, 6, mt2 (List.mem_of_getElem? (i := 54) rfl)⟩
theorem N_ES : Cond.instantiable "java/lang/IllegalStateException" 6 ∈ VV.ts := mt2 (List.mem_of_getElem? (i := 54) rfl)
theorem I_ES : Cond.initialized "java/lang/IllegalStateException" ∈ VV.ts := mt1 (List.mem_of_getElem? (i := 12) rfl)
set_option maxRecDepth 100000 in
theorem L_EI : ax_L VV "java/lang/IndexOutOfBoundsException" Cl_EI 6 := ⟨List.forall_mem_cons.mpr ⟨mt3 (List.mem_of_getElem? (i := 177) rfl), List.forall_mem_cons.mpr ⟨mt3 (List.mem_of_getElem? (i := 178) rfl), List.forall_mem_cons.mpr ⟨mt3 (List.mem_of_getElem? (i := 179) rfl), List.forall_mem_cons.mpr ⟨mt3 (List.mem_of_getElem? (i := 180) rfl), List.forall_mem_cons.mpr ⟨mt3 (List.mem_of_getElem? (i := 181) rfl), List.forall_mem_cons.mpr ⟨mt3 (List.mem_of_getElem? (i := 187) rfl), fun _ h => absurd h List.not_mem_nil⟩⟩⟩⟩⟩⟩, ⟨Ty_EI, by decide +kernel⟩, by decide +kernel, 6, mt3 (List.mem_of_getElem? (i := 174) rfl)⟩
theorem N_EI : Cond.instantiable "java/lang/IndexOutOfBoundsException" 6 ∈ VV.ts := mt3 (List.mem_of_getElem? (i := 174) rfl)
theorem I_EI : Cond.initialized "java/lang/IndexOutOfBoundsException" ∈ VV.ts := mt1 (List.mem_of_getElem? (i := 26) rfl)
theorem N_init_im : Cond.instanceMethod N_init_y ∈ VV.ts := mt1 (List.mem_of_getElem? (i := 32) rfl)
theorem JObject_init_im : Cond.instanceMethod JObject_init_y ∈ VV.ts := mt1 (List.mem_of_getElem? (i := 35) rfl)
theorem T_init_im : Cond.instanceMethod T_init_y ∈ VV.ts := mt1 (List.mem_of_getElem? (i := 40) rfl)
theorem U_init_im : Cond.instanceMethod U_init_y ∈ VV.ts := mt1 (List.mem_of_getElem? (i := 59) rfl)
theorem R_init_im : Cond.instanceMethod R_init_y ∈ VV.ts := mt1 (List.mem_of_getElem? (i := 74) rfl)
theorem K_init_im : Cond.instanceMethod K_init_y ∈ VV.ts := mt1 (List.mem_of_getElem? (i := 127) rfl)
theorem N_feed_im : Cond.instanceMethod N_feed_y ∈ VV.ts := mt1 (List.mem_of_getElem? (i := 182) rfl)
theorem N_feed_se : Cond.selects "NumberFunctions" N_feed_y N_feed_y ∈ VV.ts := mt1 (List.mem_of_getElem? (i := 183) rfl)
theorem N_appendBytes_im : Cond.instanceMethod N_appendBytes_y ∈ VV.ts := mt1 (List.mem_of_getElem? (i := 187) rfl)
theorem N_drop_im : Cond.instanceMethod N_drop_y ∈ VV.ts := mt1 (List.mem_of_getElem? (i := 190) rfl)
theorem N_drop_se : Cond.selects "NumberFunctions" N_drop_y N_drop_y ∈ VV.ts := mt1 (List.mem_of_getElem? (i := 191) rfl)
theorem N_clear_im : Cond.instanceMethod N_clear_y ∈ VV.ts := mt1 (List.mem_of_getElem? (i := 194) rfl)
theorem N_clear_se : Cond.selects "NumberFunctions" N_clear_y N_clear_y ∈ VV.ts := mt1 (List.mem_of_getElem? (i := 195) rfl)
theorem N_fault_im : Cond.instanceMethod N_fault_y ∈ VV.ts := mt1 (List.mem_of_getElem? (i := 198) rfl)
theorem N_fault_se : Cond.selects "NumberFunctions" N_fault_y N_fault_y ∈ VV.ts := mt1 (List.mem_of_getElem? (i := 199) rfl)
theorem L_cut_st : Cond.static L_cut_y ∈ VV.ts := mt1 (List.mem_of_getElem? (i := 202) rfl)
theorem N_cut_im : Cond.instanceMethod N_cut_y ∈ VV.ts := mt1 (List.mem_of_getElem? (i := 206) rfl)
theorem N_cut_se : Cond.selects "NumberFunctions" N_cut_y N_cut_y ∈ VV.ts := mt1 (List.mem_of_getElem? (i := 207) rfl)
theorem JThrowable_init1_im : Cond.instanceMethod JThrowable_init1_y ∈ VV.ts := mt1 (List.mem_of_getElem? (i := 232) rfl)
theorem JThrowable_fillInStackTrace_im : Cond.instanceMethod JThrowable_fillInStackTrace_y ∈ VV.ts := mt2 (List.mem_of_getElem? (i := 0) rfl)
theorem JIllegalArgumentException_init_im : Cond.instanceMethod JIllegalArgumentException_init_y ∈ VV.ts := mt2 (List.mem_of_getElem? (i := 12) rfl)
theorem JRuntimeException_init_im : Cond.instanceMethod JRuntimeException_init_y ∈ VV.ts := mt2 (List.mem_of_getElem? (i := 15) rfl)
theorem JException_init_im : Cond.instanceMethod JException_init_y ∈ VV.ts := mt2 (List.mem_of_getElem? (i := 18) rfl)
theorem JThrowable_init2_im : Cond.instanceMethod JThrowable_init2_y ∈ VV.ts := mt2 (List.mem_of_getElem? (i := 21) rfl)
theorem JMath_max1_st : Cond.static JMath_max1_y ∈ VV.ts := mt2 (List.mem_of_getElem? (i := 37) rfl)
theorem L_tell_st : Cond.static L_tell_y ∈ VV.ts := mt2 (List.mem_of_getElem? (i := 40) rfl)
theorem N_tell_im : Cond.instanceMethod N_tell_y ∈ VV.ts := mt2 (List.mem_of_getElem? (i := 44) rfl)
theorem N_tell_se : Cond.selects "NumberFunctions" N_tell_y N_tell_y ∈ VV.ts := mt2 (List.mem_of_getElem? (i := 45) rfl)
theorem N_isNumber_st : Cond.static N_isNumber_y ∈ VV.ts := mt2 (List.mem_of_getElem? (i := 48) rfl)
theorem JIllegalStateException_init_im : Cond.instanceMethod JIllegalStateException_init_y ∈ VV.ts := mt2 (List.mem_of_getElem? (i := 64) rfl)
theorem L_make_st : Cond.static L_make_y ∈ VV.ts := mt2 (List.mem_of_getElem? (i := 70) rfl)
theorem N_make_im : Cond.instanceMethod N_make_y ∈ VV.ts := mt2 (List.mem_of_getElem? (i := 73) rfl)
theorem N_make_se : Cond.selects "NumberFunctions" N_make_y N_make_y ∈ VV.ts := mt2 (List.mem_of_getElem? (i := 74) rfl)
theorem N_inputLimit_st : Cond.static N_inputLimit_y ∈ VV.ts := mt2 (List.mem_of_getElem? (i := 77) rfl)
theorem U_set_im : Cond.instanceMethod U_set_y ∈ VV.ts := mt2 (List.mem_of_getElem? (i := 83) rfl)
theorem U_set_se : Cond.selects "NumberFunctions$Fault" U_set_y U_set_y ∈ VV.ts := mt2 (List.mem_of_getElem? (i := 84) rfl)
theorem N_built_im : Cond.instanceMethod N_built_y ∈ VV.ts := mt2 (List.mem_of_getElem? (i := 88) rfl)
theorem N_isTold_im : Cond.instanceMethod N_isTold_y ∈ VV.ts := mt2 (List.mem_of_getElem? (i := 92) rfl)
theorem T_saysSamples_im : Cond.instanceMethod T_saysSamples_y ∈ VV.ts := mt2 (List.mem_of_getElem? (i := 95) rfl)
theorem T_saysSamples_se : Cond.selects "NumberFunctions$Telling" T_saysSamples_y T_saysSamples_y ∈ VV.ts := mt2 (List.mem_of_getElem? (i := 96) rfl)
theorem T_isSampleBits_st : Cond.static T_isSampleBits_y ∈ VV.ts := mt2 (List.mem_of_getElem? (i := 99) rfl)
theorem T_isPair_im : Cond.instanceMethod T_isPair_y ∈ VV.ts := mt2 (List.mem_of_getElem? (i := 103) rfl)
theorem T_isOneOf_im : Cond.instanceMethod T_isOneOf_y ∈ VV.ts := mt2 (List.mem_of_getElem? (i := 107) rfl)
theorem T_saysPowers_im : Cond.instanceMethod T_saysPowers_y ∈ VV.ts := mt2 (List.mem_of_getElem? (i := 110) rfl)
theorem T_saysPowers_se : Cond.selects "NumberFunctions$Telling" T_saysPowers_y T_saysPowers_y ∈ VV.ts := mt2 (List.mem_of_getElem? (i := 111) rfl)
theorem T_saysStitched_im : Cond.instanceMethod T_saysStitched_y ∈ VV.ts := mt2 (List.mem_of_getElem? (i := 114) rfl)
theorem T_saysStitched_se : Cond.selects "NumberFunctions$Telling" T_saysStitched_y T_saysStitched_y ∈ VV.ts := mt2 (List.mem_of_getElem? (i := 115) rfl)
theorem T_isPart_st : Cond.static T_isPart_y ∈ VV.ts := mt2 (List.mem_of_getElem? (i := 118) rfl)
theorem T_areBounds_im : Cond.instanceMethod T_areBounds_y ∈ VV.ts := mt2 (List.mem_of_getElem? (i := 122) rfl)
theorem T_saysProgram_im : Cond.instanceMethod T_saysProgram_y ∈ VV.ts := mt2 (List.mem_of_getElem? (i := 125) rfl)
theorem T_saysProgram_se : Cond.selects "NumberFunctions$Telling" T_saysProgram_y T_saysProgram_y ∈ VV.ts := mt2 (List.mem_of_getElem? (i := 126) rfl)
theorem JArrays_copyOf1_st : Cond.static JArrays_copyOf1_y ∈ VV.ts := mt2 (List.mem_of_getElem? (i := 129) rfl)
theorem JMath_min1_st : Cond.static JMath_min1_y ∈ VV.ts := mt2 (List.mem_of_getElem? (i := 139) rfl)
theorem N_builtSamples_im : Cond.instanceMethod N_builtSamples_y ∈ VV.ts := mt2 (List.mem_of_getElem? (i := 146) rfl)
theorem S_bytesNeeded_st : Cond.static S_bytesNeeded_y ∈ VV.ts := mt2 (List.mem_of_getElem? (i := 149) rfl)
theorem JArrays_copyOf2_st : Cond.static JArrays_copyOf2_y ∈ VV.ts := mt2 (List.mem_of_getElem? (i := 154) rfl)
theorem S_init_im : Cond.instanceMethod S_init_y ∈ VV.ts := mt2 (List.mem_of_getElem? (i := 162) rfl)
theorem F_init_im : Cond.instanceMethod F_init_y ∈ VV.ts := mt2 (List.mem_of_getElem? (i := 165) rfl)
theorem P_init_im : Cond.instanceMethod P_init_y ∈ VV.ts := mt2 (List.mem_of_getElem? (i := 216) rfl)
theorem Z_init_im : Cond.instanceMethod Z_init_y ∈ VV.ts := mt2 (List.mem_of_getElem? (i := 226) rfl)
theorem R_read_im : Cond.instanceMethod R_read_y ∈ VV.ts := mt2 (List.mem_of_getElem? (i := 238) rfl)
theorem R_read_se : Cond.selects "NumberFunctions$Reader" R_read_y R_read_y ∈ VV.ts := mt2 (List.mem_of_getElem? (i := 239) rfl)
theorem R_wordStart_im : Cond.instanceMethod R_wordStart_y ∈ VV.ts := mt3 (List.mem_of_getElem? (i := 3) rfl)
theorem R_signAt_im : Cond.instanceMethod R_signAt_y ∈ VV.ts := mt3 (List.mem_of_getElem? (i := 7) rfl)
theorem R_wordEnd_im : Cond.instanceMethod R_wordEnd_y ∈ VV.ts := mt3 (List.mem_of_getElem? (i := 11) rfl)
theorem R_isBrace_st : Cond.static R_isBrace_y ∈ VV.ts := mt3 (List.mem_of_getElem? (i := 14) rfl)
theorem R_take_im : Cond.instanceMethod R_take_y ∈ VV.ts := mt3 (List.mem_of_getElem? (i := 18) rfl)
theorem O_spelled_st : Cond.static O_spelled_y ∈ VV.ts := mt3 (List.mem_of_getElem? (i := 21) rfl)
theorem JString_length_im : Cond.instanceMethod JString_length_y ∈ VV.ts := mt3 (List.mem_of_getElem? (i := 26) rfl)
theorem JString_length_se : Cond.selects "java/lang/String" JString_length_y JString_length_y ∈ VV.ts := mt3 (List.mem_of_getElem? (i := 27) rfl)
theorem JString_coder_im : Cond.instanceMethod JString_coder_y ∈ VV.ts := mt3 (List.mem_of_getElem? (i := 30) rfl)
theorem JString_coder_se : Cond.selects "java/lang/String" JString_coder_y JString_coder_y ∈ VV.ts := mt3 (List.mem_of_getElem? (i := 31) rfl)
theorem O_isAt_im : Cond.instanceMethod O_isAt_y ∈ VV.ts := mt3 (List.mem_of_getElem? (i := 37) rfl)
theorem JString_charAt_im : Cond.instanceMethod JString_charAt_y ∈ VV.ts := mt3 (List.mem_of_getElem? (i := 41) rfl)
theorem JString_charAt_se : Cond.selects "java/lang/String" JString_charAt_y JString_charAt_y ∈ VV.ts := mt3 (List.mem_of_getElem? (i := 42) rfl)
theorem JString_isLatin1_im : Cond.instanceMethod JString_isLatin1_y ∈ VV.ts := mt3 (List.mem_of_getElem? (i := 45) rfl)
theorem JString_isLatin1_se : Cond.selects "java/lang/String" JString_isLatin1_y JString_isLatin1_y ∈ VV.ts := mt3 (List.mem_of_getElem? (i := 46) rfl)
theorem JStringLatin1_charAt_st : Cond.static JStringLatin1_charAt_y ∈ VV.ts := mt3 (List.mem_of_getElem? (i := 49) rfl)
theorem JString_checkIndex_st : Cond.static JString_checkIndex_y ∈ VV.ts := mt3 (List.mem_of_getElem? (i := 52) rfl)
theorem JPreconditions_checkIndex_st : Cond.static JPreconditions_checkIndex_y ∈ VV.ts := mt3 (List.mem_of_getElem? (i := 57) rfl)
theorem JStringUTF16_charAt_st : Cond.static JStringUTF16_charAt_y ∈ VV.ts := mt3 (List.mem_of_getElem? (i := 60) rfl)
theorem JStringUTF16_checkIndex_st : Cond.static JStringUTF16_checkIndex_y ∈ VV.ts := mt3 (List.mem_of_getElem? (i := 63) rfl)
theorem JStringUTF16_length_st : Cond.static JStringUTF16_length_y ∈ VV.ts := mt3 (List.mem_of_getElem? (i := 66) rfl)
theorem JStringUTF16_getChar_st : Cond.static JStringUTF16_getChar_y ∈ VV.ts := mt3 (List.mem_of_getElem? (i := 70) rfl)
theorem R_isMisplaced_im : Cond.instanceMethod R_isMisplaced_y ∈ VV.ts := mt3 (List.mem_of_getElem? (i := 80) rfl)
theorem R_readNumeral_im : Cond.instanceMethod R_readNumeral_y ∈ VV.ts := mt3 (List.mem_of_getElem? (i := 90) rfl)
theorem R_digitsEnd_im : Cond.instanceMethod R_digitsEnd_y ∈ VV.ts := mt3 (List.mem_of_getElem? (i := 94) rfl)
theorem R_wholePart_im : Cond.instanceMethod R_wholePart_y ∈ VV.ts := mt3 (List.mem_of_getElem? (i := 98) rfl)
theorem R_fractionPart_im : Cond.instanceMethod R_fractionPart_y ∈ VV.ts := mt3 (List.mem_of_getElem? (i := 104) rfl)
theorem R_put_im : Cond.instanceMethod R_put_y ∈ VV.ts := mt3 (List.mem_of_getElem? (i := 113) rfl)
theorem R_close_im : Cond.instanceMethod R_close_y ∈ VV.ts := mt3 (List.mem_of_getElem? (i := 119) rfl)
theorem R_joinChoice_im : Cond.instanceMethod R_joinChoice_y ∈ VV.ts := mt3 (List.mem_of_getElem? (i := 123) rfl)
theorem G_init_im : Cond.instanceMethod G_init_y ∈ VV.ts := mt3 (List.mem_of_getElem? (i := 129) rfl)
theorem L_input_st : Cond.static L_input_y ∈ VV.ts := mt3 (List.mem_of_getElem? (i := 158) rfl)
theorem N_input_im : Cond.instanceMethod N_input_y ∈ VV.ts := mt3 (List.mem_of_getElem? (i := 161) rfl)
theorem N_input_se : Cond.selects "NumberFunctions" N_input_y N_input_y ∈ VV.ts := mt3 (List.mem_of_getElem? (i := 162) rfl)
theorem L_call_st : Cond.static L_call_y ∈ VV.ts := mt3 (List.mem_of_getElem? (i := 166) rfl)
theorem N_call_im : Cond.instanceMethod N_call_y ∈ VV.ts := mt3 (List.mem_of_getElem? (i := 170) rfl)
theorem N_call_se : Cond.selects "NumberFunctions" N_call_y N_call_y ∈ VV.ts := mt3 (List.mem_of_getElem? (i := 171) rfl)
theorem JIndexOutOfBoundsException_init_im : Cond.instanceMethod JIndexOutOfBoundsException_init_y ∈ VV.ts := mt3 (List.mem_of_getElem? (i := 184) rfl)
theorem P_evaluate_im : Cond.instanceMethod P_evaluate_y ∈ VV.ts := mt3 (List.mem_of_getElem? (i := 194) rfl)
theorem F_withinPair_im : Cond.instanceMethod F_withinPair_y ∈ VV.ts := mt3 (List.mem_of_getElem? (i := 200) rfl)
theorem B_within_st : Cond.static B_within_y ∈ VV.ts := mt3 (List.mem_of_getElem? (i := 203) rfl)
theorem JMath_min2_st : Cond.static JMath_min2_y ∈ VV.ts := mt3 (List.mem_of_getElem? (i := 206) rfl)
theorem JMath_max2_st : Cond.static JMath_max2_y ∈ VV.ts := mt3 (List.mem_of_getElem? (i := 209) rfl)
theorem B_times_st : Cond.static B_times_y ∈ VV.ts := mt3 (List.mem_of_getElem? (i := 213) rfl)
theorem B_number_st : Cond.static B_number_y ∈ VV.ts := mt3 (List.mem_of_getElem? (i := 216) rfl)
theorem G_evaluate_im : Cond.instanceMethod G_evaluate_y ∈ VV.ts := mt3 (List.mem_of_getElem? (i := 224) rfl)
theorem K_give_im : Cond.instanceMethod K_give_y ∈ VV.ts := mt3 (List.mem_of_getElem? (i := 230) rfl)
theorem K_give_se : Cond.selects "NumberFunctions$Machine" K_give_y K_give_y ∈ VV.ts := mt3 (List.mem_of_getElem? (i := 231) rfl)
theorem K_perform_im : Cond.instanceMethod K_perform_y ∈ VV.ts := mt3 (List.mem_of_getElem? (i := 235) rfl)
theorem K_perform_se : Cond.selects "NumberFunctions$Machine" K_perform_y K_perform_y ∈ VV.ts := mt3 (List.mem_of_getElem? (i := 236) rfl)
theorem K_constant_im : Cond.instanceMethod K_constant_y ∈ VV.ts := mt4 (List.mem_of_getElem? (i := 0) rfl)
theorem K_giveTruth_im : Cond.instanceMethod K_giveTruth_y ∈ VV.ts := mt4 (List.mem_of_getElem? (i := 8) rfl)
theorem K_oneNumber_im : Cond.instanceMethod K_oneNumber_y ∈ VV.ts := mt4 (List.mem_of_getElem? (i := 12) rfl)
theorem K_ofOneNumber_st : Cond.static K_ofOneNumber_y ∈ VV.ts := mt4 (List.mem_of_getElem? (i := 17) rfl)
theorem JEnum_ordinal_im : Cond.instanceMethod JEnum_ordinal_y ∈ VV.ts := mt4 (List.mem_of_getElem? (i := 25) rfl)
theorem JMath_abs_st : Cond.static JMath_abs_y ∈ VV.ts := mt4 (List.mem_of_getElem? (i := 28) rfl)
theorem B_floor_st : Cond.static B_floor_y ∈ VV.ts := mt4 (List.mem_of_getElem? (i := 31) rfl)
theorem B_truncate_st : Cond.static B_truncate_y ∈ VV.ts := mt4 (List.mem_of_getElem? (i := 36) rfl)
theorem B_root_st : Cond.static B_root_y ∈ VV.ts := mt4 (List.mem_of_getElem? (i := 40) rfl)
theorem K_twoNumbers_im : Cond.instanceMethod K_twoNumbers_y ∈ VV.ts := mt4 (List.mem_of_getElem? (i := 44) rfl)
theorem K_ofTwoNumbers_st : Cond.static K_ofTwoNumbers_y ∈ VV.ts := mt4 (List.mem_of_getElem? (i := 49) rfl)
theorem B_over_st : Cond.static B_over_y ∈ VV.ts := mt4 (List.mem_of_getElem? (i := 53) rfl)
theorem JMath_floorDiv_st : Cond.static JMath_floorDiv_y ∈ VV.ts := mt4 (List.mem_of_getElem? (i := 57) rfl)
theorem K_twoWholes_im : Cond.instanceMethod K_twoWholes_y ∈ VV.ts := mt4 (List.mem_of_getElem? (i := 61) rfl)
theorem K_faultOfWholes_im : Cond.instanceMethod K_faultOfWholes_y ∈ VV.ts := mt4 (List.mem_of_getElem? (i := 65) rfl)
theorem K_shifted_st : Cond.static K_shifted_y ∈ VV.ts := mt4 (List.mem_of_getElem? (i := 71) rfl)
theorem K_giveWhole_im : Cond.instanceMethod K_giveWhole_y ∈ VV.ts := mt4 (List.mem_of_getElem? (i := 75) rfl)
theorem K_comparison_im : Cond.instanceMethod K_comparison_y ∈ VV.ts := mt4 (List.mem_of_getElem? (i := 82) rfl)
theorem K_compared_st : Cond.static K_compared_y ∈ VV.ts := mt4 (List.mem_of_getElem? (i := 89) rfl)
theorem K_negation_im : Cond.instanceMethod K_negation_y ∈ VV.ts := mt4 (List.mem_of_getElem? (i := 95) rfl)
theorem K_logic_im : Cond.instanceMethod K_logic_y ∈ VV.ts := mt4 (List.mem_of_getElem? (i := 99) rfl)
theorem K_combined_st : Cond.static K_combined_y ∈ VV.ts := mt4 (List.mem_of_getElem? (i := 102) rfl)
theorem K_move_im : Cond.instanceMethod K_move_y ∈ VV.ts := mt4 (List.mem_of_getElem? (i := 106) rfl)
theorem K_reverse_im : Cond.instanceMethod K_reverse_y ∈ VV.ts := mt4 (List.mem_of_getElem? (i := 110) rfl)
theorem K_roll_im : Cond.instanceMethod K_roll_y ∈ VV.ts := mt4 (List.mem_of_getElem? (i := 116) rfl)
theorem JMath_floorMod1_st : Cond.static JMath_floorMod1_y ∈ VV.ts := mt4 (List.mem_of_getElem? (i := 119) rfl)
theorem K_turn_im : Cond.instanceMethod K_turn_y ∈ VV.ts := mt4 (List.mem_of_getElem? (i := 123) rfl)
theorem K_reach_im : Cond.instanceMethod K_reach_y ∈ VV.ts := mt4 (List.mem_of_getElem? (i := 127) rfl)
theorem K_copyUpper_im : Cond.instanceMethod K_copyUpper_y ∈ VV.ts := mt4 (List.mem_of_getElem? (i := 133) rfl)
theorem K_choice_im : Cond.instanceMethod K_choice_y ∈ VV.ts := mt4 (List.mem_of_getElem? (i := 138) rfl)
theorem G_takeResults_im : Cond.instanceMethod G_takeResults_y ∈ VV.ts := mt4 (List.mem_of_getElem? (i := 143) rfl)
theorem K_faultAtEnd_im : Cond.instanceMethod K_faultAtEnd_y ∈ VV.ts := mt4 (List.mem_of_getElem? (i := 146) rfl)
theorem K_faultAtEnd_se : Cond.selects "NumberFunctions$Machine" K_faultAtEnd_y K_faultAtEnd_y ∈ VV.ts := mt4 (List.mem_of_getElem? (i := 147) rfl)
theorem S_evaluate_im : Cond.instanceMethod S_evaluate_y ∈ VV.ts := mt4 (List.mem_of_getElem? (i := 150) rfl)
theorem S_locate_im : Cond.instanceMethod S_locate_y ∈ VV.ts := mt4 (List.mem_of_getElem? (i := 154) rfl)
theorem B_laid_st : Cond.static B_laid_y ∈ VV.ts := mt4 (List.mem_of_getElem? (i := 160) rfl)
theorem S_between_im : Cond.instanceMethod S_between_y ∈ VV.ts := mt4 (List.mem_of_getElem? (i := 167) rfl)
theorem S_placeOf_im : Cond.instanceMethod S_placeOf_y ∈ VV.ts := mt4 (List.mem_of_getElem? (i := 171) rfl)
theorem S_sample_im : Cond.instanceMethod S_sample_y ∈ VV.ts := mt4 (List.mem_of_getElem? (i := 176) rfl)
theorem S_bitAt_im : Cond.instanceMethod S_bitAt_y ∈ VV.ts := mt4 (List.mem_of_getElem? (i := 181) rfl)
theorem Z_evaluate_im : Cond.instanceMethod Z_evaluate_y ∈ VV.ts := mt4 (List.mem_of_getElem? (i := 184) rfl)
theorem L_output_st : Cond.static L_output_y ∈ VV.ts := mt4 (List.mem_of_getElem? (i := 192) rfl)
theorem N_output_im : Cond.instanceMethod N_output_y ∈ VV.ts := mt4 (List.mem_of_getElem? (i := 195) rfl)
theorem N_output_se : Cond.selects "NumberFunctions" N_output_y N_output_y ∈ VV.ts := mt4 (List.mem_of_getElem? (i := 196) rfl)
theorem M_init_im : Cond.instanceMethod M_init_y ∈ VV.ts := mt4 (List.mem_of_getElem? (i := 202) rfl)
theorem M_thrown_im : Cond.instanceMethod M_thrown_y ∈ VV.ts := mt5 (List.mem_of_getElem? (i := 64) rfl)
theorem M_thrown_se : Cond.selects "NumberFunctionsModel" M_thrown_y M_thrown_y ∈ VV.ts := mt5 (List.mem_of_getElem? (i := 65) rfl)
theorem M_feed_im : Cond.instanceMethod M_feed_y ∈ VV.ts := mt5 (List.mem_of_getElem? (i := 68) rfl)
theorem M_feed_se : Cond.selects "NumberFunctionsModel" M_feed_y M_feed_y ∈ VV.ts := mt5 (List.mem_of_getElem? (i := 69) rfl)
theorem M_cut_im : Cond.instanceMethod M_cut_y ∈ VV.ts := mt5 (List.mem_of_getElem? (i := 72) rfl)
theorem M_cut_se : Cond.selects "NumberFunctionsModel" M_cut_y M_cut_y ∈ VV.ts := mt5 (List.mem_of_getElem? (i := 73) rfl)
theorem M_refused_im : Cond.instanceMethod M_refused_y ∈ VV.ts := mt5 (List.mem_of_getElem? (i := 77) rfl)
theorem M_tell_im : Cond.instanceMethod M_tell_y ∈ VV.ts := mt5 (List.mem_of_getElem? (i := 80) rfl)
theorem M_tell_se : Cond.selects "NumberFunctionsModel" M_tell_y M_tell_y ∈ VV.ts := mt5 (List.mem_of_getElem? (i := 81) rfl)
theorem M_isIn_st : Cond.static M_isIn_y ∈ VV.ts := mt5 (List.mem_of_getElem? (i := 86) rfl)
theorem M_drop_im : Cond.instanceMethod M_drop_y ∈ VV.ts := mt5 (List.mem_of_getElem? (i := 89) rfl)
theorem M_drop_se : Cond.selects "NumberFunctionsModel" M_drop_y M_drop_y ∈ VV.ts := mt5 (List.mem_of_getElem? (i := 90) rfl)
theorem M_clear_im : Cond.instanceMethod M_clear_y ∈ VV.ts := mt5 (List.mem_of_getElem? (i := 93) rfl)
theorem M_clear_se : Cond.selects "NumberFunctionsModel" M_clear_y M_clear_y ∈ VV.ts := mt5 (List.mem_of_getElem? (i := 94) rfl)
theorem M_input_im : Cond.instanceMethod M_input_y ∈ VV.ts := mt5 (List.mem_of_getElem? (i := 97) rfl)
theorem M_input_se : Cond.selects "NumberFunctionsModel" M_input_y M_input_y ∈ VV.ts := mt5 (List.mem_of_getElem? (i := 98) rfl)
theorem M_output_im : Cond.instanceMethod M_output_y ∈ VV.ts := mt5 (List.mem_of_getElem? (i := 102) rfl)
theorem M_output_se : Cond.selects "NumberFunctionsModel" M_output_y M_output_y ∈ VV.ts := mt5 (List.mem_of_getElem? (i := 103) rfl)
theorem M_fault_im : Cond.instanceMethod M_fault_y ∈ VV.ts := mt5 (List.mem_of_getElem? (i := 106) rfl)
theorem M_fault_se : Cond.selects "NumberFunctionsModel" M_fault_y M_fault_y ∈ VV.ts := mt5 (List.mem_of_getElem? (i := 107) rfl)
theorem M_make_im : Cond.instanceMethod M_make_y ∈ VV.ts := mt5 (List.mem_of_getElem? (i := 110) rfl)
theorem M_make_se : Cond.selects "NumberFunctionsModel" M_make_y M_make_y ∈ VV.ts := mt5 (List.mem_of_getElem? (i := 111) rfl)
theorem M_isKind_st : Cond.static M_isKind_y ∈ VV.ts := mt5 (List.mem_of_getElem? (i := 114) rfl)
theorem M_tellFault_im : Cond.instanceMethod M_tellFault_y ∈ VV.ts := mt5 (List.mem_of_getElem? (i := 119) rfl)
theorem M_isTold_im : Cond.instanceMethod M_isTold_y ∈ VV.ts := mt5 (List.mem_of_getElem? (i := 123) rfl)
theorem M_isSamples_im : Cond.instanceMethod M_isSamples_y ∈ VV.ts := mt5 (List.mem_of_getElem? (i := 127) rfl)
theorem M_isPair_im : Cond.instanceMethod M_isPair_y ∈ VV.ts := mt5 (List.mem_of_getElem? (i := 131) rfl)
theorem M_isPowers_im : Cond.instanceMethod M_isPowers_y ∈ VV.ts := mt5 (List.mem_of_getElem? (i := 136) rfl)
theorem M_isStitched_im : Cond.instanceMethod M_isStitched_y ∈ VV.ts := mt5 (List.mem_of_getElem? (i := 141) rfl)
theorem M_arePairs_im : Cond.instanceMethod M_arePairs_y ∈ VV.ts := mt5 (List.mem_of_getElem? (i := 146) rfl)
theorem M_sampleBytes_im : Cond.instanceMethod M_sampleBytes_y ∈ VV.ts := mt5 (List.mem_of_getElem? (i := 150) rfl)
theorem M_readWords_im : Cond.instanceMethod M_readWords_y ∈ VV.ts := mt5 (List.mem_of_getElem? (i := 155) rfl)
theorem M_signAt_im : Cond.instanceMethod M_signAt_y ∈ VV.ts := mt5 (List.mem_of_getElem? (i := 159) rfl)
theorem M_isBrace_st : Cond.static M_isBrace_y ∈ VV.ts := mt5 (List.mem_of_getElem? (i := 162) rfl)
theorem M_show_im : Cond.instanceMethod M_show_y ∈ VV.ts := mt5 (List.mem_of_getElem? (i := 166) rfl)
theorem M_isWord_im : Cond.instanceMethod M_isWord_y ∈ VV.ts := mt5 (List.mem_of_getElem? (i := 171) rfl)
theorem M_checkWord_im : Cond.instanceMethod M_checkWord_y ∈ VV.ts := mt5 (List.mem_of_getElem? (i := 178) rfl)
theorem M_isNumber_im : Cond.instanceMethod M_isNumber_y ∈ VV.ts := mt5 (List.mem_of_getElem? (i := 182) rfl)
theorem M_isDigit_st : Cond.static M_isDigit_y ∈ VV.ts := mt5 (List.mem_of_getElem? (i := 185) rfl)
theorem M_partOf_im : Cond.instanceMethod M_partOf_y ∈ VV.ts := mt5 (List.mem_of_getElem? (i := 189) rfl)
theorem M_nameOf_im : Cond.instanceMethod M_nameOf_y ∈ VV.ts := mt5 (List.mem_of_getElem? (i := 199) rfl)
theorem M_name_st : Cond.static M_name_y ∈ VV.ts := mt5 (List.mem_of_getElem? (i := 202) rfl)
theorem M_call_im : Cond.instanceMethod M_call_y ∈ VV.ts := mt5 (List.mem_of_getElem? (i := 239) rfl)
theorem M_call_se : Cond.selects "NumberFunctionsModel" M_call_y M_call_y ∈ VV.ts := mt6 (List.mem_of_getElem? (i := 0) rfl)
theorem M_stitched_im : Cond.instanceMethod M_stitched_y ∈ VV.ts := mt6 (List.mem_of_getElem? (i := 4) rfl)
theorem M_of_im : Cond.instanceMethod M_of_y ∈ VV.ts := mt6 (List.mem_of_getElem? (i := 8) rfl)
theorem M_cutTo_st : Cond.static M_cutTo_y ∈ VV.ts := mt6 (List.mem_of_getElem? (i := 11) rfl)
theorem M_laid_st : Cond.static M_laid_y ∈ VV.ts := mt6 (List.mem_of_getElem? (i := 14) rfl)
theorem M_down_st : Cond.static M_down_y ∈ VV.ts := mt6 (List.mem_of_getElem? (i := 17) rfl)
theorem M_kept_st : Cond.static M_kept_y ∈ VV.ts := mt6 (List.mem_of_getElem? (i := 21) rfl)
theorem M_samples_im : Cond.instanceMethod M_samples_y ∈ VV.ts := mt6 (List.mem_of_getElem? (i := 25) rfl)
theorem M_inputOf_im : Cond.instanceMethod M_inputOf_y ∈ VV.ts := mt6 (List.mem_of_getElem? (i := 29) rfl)
theorem M_interpolated_im : Cond.instanceMethod M_interpolated_y ∈ VV.ts := mt6 (List.mem_of_getElem? (i := 33) rfl)
theorem M_sampleAt_im : Cond.instanceMethod M_sampleAt_y ∈ VV.ts := mt6 (List.mem_of_getElem? (i := 37) rfl)
theorem M_decoded_im : Cond.instanceMethod M_decoded_y ∈ VV.ts := mt6 (List.mem_of_getElem? (i := 41) rfl)
theorem M_powers_im : Cond.instanceMethod M_powers_y ∈ VV.ts := mt6 (List.mem_of_getElem? (i := 45) rfl)
theorem M_times_st : Cond.static M_times_y ∈ VV.ts := mt6 (List.mem_of_getElem? (i := 48) rfl)
theorem M_program_im : Cond.instanceMethod M_program_y ∈ VV.ts := mt6 (List.mem_of_getElem? (i := 52) rfl)
theorem M_isGood_im : Cond.instanceMethod M_isGood_y ∈ VV.ts := mt6 (List.mem_of_getElem? (i := 56) rfl)
theorem M_next_im : Cond.instanceMethod M_next_y ∈ VV.ts := mt6 (List.mem_of_getElem? (i := 60) rfl)
theorem M_choose_im : Cond.instanceMethod M_choose_y ∈ VV.ts := mt6 (List.mem_of_getElem? (i := 66) rfl)
theorem M_matchOf_im : Cond.instanceMethod M_matchOf_y ∈ VV.ts := mt6 (List.mem_of_getElem? (i := 70) rfl)
theorem M_has_im : Cond.instanceMethod M_has_y ∈ VV.ts := mt6 (List.mem_of_getElem? (i := 74) rfl)
theorem M_fail_im : Cond.instanceMethod M_fail_y ∈ VV.ts := mt6 (List.mem_of_getElem? (i := 78) rfl)
theorem M_take_im : Cond.instanceMethod M_take_y ∈ VV.ts := mt6 (List.mem_of_getElem? (i := 82) rfl)
theorem M_putNumber_im : Cond.instanceMethod M_putNumber_y ∈ VV.ts := mt6 (List.mem_of_getElem? (i := 86) rfl)
theorem M_put_im : Cond.instanceMethod M_put_y ∈ VV.ts := mt6 (List.mem_of_getElem? (i := 90) rfl)
theorem M_perform_im : Cond.instanceMethod M_perform_y ∈ VV.ts := mt6 (List.mem_of_getElem? (i := 94) rfl)
theorem M_one_im : Cond.instanceMethod M_one_y ∈ VV.ts := mt6 (List.mem_of_getElem? (i := 98) rfl)
theorem M_areNumbers_im : Cond.instanceMethod M_areNumbers_y ∈ VV.ts := mt6 (List.mem_of_getElem? (i := 102) rfl)
theorem M_toZero_st : Cond.static M_toZero_y ∈ VV.ts := mt6 (List.mem_of_getElem? (i := 106) rfl)
theorem M_rootOf_st : Cond.static M_rootOf_y ∈ VV.ts := mt6 (List.mem_of_getElem? (i := 109) rfl)
theorem M_two_im : Cond.instanceMethod M_two_y ∈ VV.ts := mt6 (List.mem_of_getElem? (i := 115) rfl)
theorem M_areWhole_im : Cond.instanceMethod M_areWhole_y ∈ VV.ts := mt6 (List.mem_of_getElem? (i := 119) rfl)
theorem M_compare_im : Cond.instanceMethod M_compare_y ∈ VV.ts := mt6 (List.mem_of_getElem? (i := 123) rfl)
theorem M_putTruth_im : Cond.instanceMethod M_putTruth_y ∈ VV.ts := mt6 (List.mem_of_getElem? (i := 127) rfl)
theorem M_bits_im : Cond.instanceMethod M_bits_y ∈ VV.ts := mt6 (List.mem_of_getElem? (i := 131) rfl)
theorem M_join_im : Cond.instanceMethod M_join_y ∈ VV.ts := mt6 (List.mem_of_getElem? (i := 135) rfl)
theorem M_joined_st : Cond.static M_joined_y ∈ VV.ts := mt6 (List.mem_of_getElem? (i := 138) rfl)
theorem M_not_im : Cond.instanceMethod M_not_y ∈ VV.ts := mt6 (List.mem_of_getElem? (i := 142) rfl)
theorem M_shift_im : Cond.instanceMethod M_shift_y ∈ VV.ts := mt6 (List.mem_of_getElem? (i := 147) rfl)
theorem M_move_im : Cond.instanceMethod M_move_y ∈ VV.ts := mt6 (List.mem_of_getElem? (i := 153) rfl)
theorem M_turn_im : Cond.instanceMethod M_turn_y ∈ VV.ts := mt6 (List.mem_of_getElem? (i := 157) rfl)
theorem M_copy_im : Cond.instanceMethod M_copy_y ∈ VV.ts := mt6 (List.mem_of_getElem? (i := 161) rfl)
theorem M_isAmount_im : Cond.instanceMethod M_isAmount_y ∈ VV.ts := mt6 (List.mem_of_getElem? (i := 165) rfl)
theorem M_index_im : Cond.instanceMethod M_index_y ∈ VV.ts := mt6 (List.mem_of_getElem? (i := 170) rfl)
theorem M_roll_im : Cond.instanceMethod M_roll_y ∈ VV.ts := mt6 (List.mem_of_getElem? (i := 174) rfl)
theorem JMath_floorMod2_st : Cond.static JMath_floorMod2_y ∈ VV.ts := mt6 (List.mem_of_getElem? (i := 177) rfl)
theorem N_appendBytes_se : Cond.selects "NumberFunctions" N_appendBytes_y N_appendBytes_y ∈ VV.ts := List.mem_filter.mpr ⟨List.mem_append_left _ (List.mem_of_getElem? (i := 0) rfl), rfl⟩
theorem N_built_se : Cond.selects "NumberFunctions" N_built_y N_built_y ∈ VV.ts := List.mem_filter.mpr ⟨List.mem_append_left _ (List.mem_of_getElem? (i := 2) rfl), rfl⟩
theorem N_isTold_se : Cond.selects "NumberFunctions" N_isTold_y N_isTold_y ∈ VV.ts := List.mem_filter.mpr ⟨List.mem_append_left _ (List.mem_of_getElem? (i := 3) rfl), rfl⟩
theorem T_isPair_se : Cond.selects "NumberFunctions$Telling" T_isPair_y T_isPair_y ∈ VV.ts := List.mem_filter.mpr ⟨List.mem_append_left _ (List.mem_of_getElem? (i := 4) rfl), rfl⟩
theorem T_isOneOf_se : Cond.selects "NumberFunctions$Telling" T_isOneOf_y T_isOneOf_y ∈ VV.ts := List.mem_filter.mpr ⟨List.mem_append_left _ (List.mem_of_getElem? (i := 5) rfl), rfl⟩
theorem T_areBounds_se : Cond.selects "NumberFunctions$Telling" T_areBounds_y T_areBounds_y ∈ VV.ts := List.mem_filter.mpr ⟨List.mem_append_left _ (List.mem_of_getElem? (i := 6) rfl), rfl⟩
theorem N_builtSamples_se : Cond.selects "NumberFunctions" N_builtSamples_y N_builtSamples_y ∈ VV.ts := List.mem_filter.mpr ⟨List.mem_append_left _ (List.mem_of_getElem? (i := 7) rfl), rfl⟩
theorem R_wordStart_se : Cond.selects "NumberFunctions$Reader" R_wordStart_y R_wordStart_y ∈ VV.ts := List.mem_filter.mpr ⟨List.mem_append_left _ (List.mem_of_getElem? (i := 8) rfl), rfl⟩
theorem R_signAt_se : Cond.selects "NumberFunctions$Reader" R_signAt_y R_signAt_y ∈ VV.ts := List.mem_filter.mpr ⟨List.mem_append_left _ (List.mem_of_getElem? (i := 9) rfl), rfl⟩
theorem R_wordEnd_se : Cond.selects "NumberFunctions$Reader" R_wordEnd_y R_wordEnd_y ∈ VV.ts := List.mem_filter.mpr ⟨List.mem_append_left _ (List.mem_of_getElem? (i := 10) rfl), rfl⟩
theorem R_take_se : Cond.selects "NumberFunctions$Reader" R_take_y R_take_y ∈ VV.ts := List.mem_filter.mpr ⟨List.mem_append_left _ (List.mem_of_getElem? (i := 11) rfl), rfl⟩
theorem O_isAt_se : Cond.selects "NumberFunctions$Word" O_isAt_y O_isAt_y ∈ VV.ts := List.mem_filter.mpr ⟨List.mem_append_left _ (List.mem_of_getElem? (i := 12) rfl), rfl⟩
theorem R_isMisplaced_se : Cond.selects "NumberFunctions$Reader" R_isMisplaced_y R_isMisplaced_y ∈ VV.ts := List.mem_filter.mpr ⟨List.mem_append_left _ (List.mem_of_getElem? (i := 13) rfl), rfl⟩
theorem R_readNumeral_se : Cond.selects "NumberFunctions$Reader" R_readNumeral_y R_readNumeral_y ∈ VV.ts := List.mem_filter.mpr ⟨List.mem_append_left _ (List.mem_of_getElem? (i := 14) rfl), rfl⟩
theorem R_digitsEnd_se : Cond.selects "NumberFunctions$Reader" R_digitsEnd_y R_digitsEnd_y ∈ VV.ts := List.mem_filter.mpr ⟨List.mem_append_left _ (List.mem_of_getElem? (i := 15) rfl), rfl⟩
theorem R_wholePart_se : Cond.selects "NumberFunctions$Reader" R_wholePart_y R_wholePart_y ∈ VV.ts := List.mem_filter.mpr ⟨List.mem_append_left _ (List.mem_of_getElem? (i := 16) rfl), rfl⟩
theorem R_fractionPart_se : Cond.selects "NumberFunctions$Reader" R_fractionPart_y R_fractionPart_y ∈ VV.ts := List.mem_filter.mpr ⟨List.mem_append_left _ (List.mem_of_getElem? (i := 17) rfl), rfl⟩
theorem R_put_se : Cond.selects "NumberFunctions$Reader" R_put_y R_put_y ∈ VV.ts := List.mem_filter.mpr ⟨List.mem_append_left _ (List.mem_of_getElem? (i := 18) rfl), rfl⟩
theorem R_close_se : Cond.selects "NumberFunctions$Reader" R_close_y R_close_y ∈ VV.ts := List.mem_filter.mpr ⟨List.mem_append_left _ (List.mem_of_getElem? (i := 19) rfl), rfl⟩
theorem R_joinChoice_se : Cond.selects "NumberFunctions$Reader" R_joinChoice_y R_joinChoice_y ∈ VV.ts := List.mem_filter.mpr ⟨List.mem_append_left _ (List.mem_of_getElem? (i := 20) rfl), rfl⟩
theorem K_constant_se : Cond.selects "NumberFunctions$Machine" K_constant_y K_constant_y ∈ VV.ts := List.mem_filter.mpr ⟨List.mem_append_left _ (List.mem_of_getElem? (i := 21) rfl), rfl⟩
theorem K_giveTruth_se : Cond.selects "NumberFunctions$Machine" K_giveTruth_y K_giveTruth_y ∈ VV.ts := List.mem_filter.mpr ⟨List.mem_append_left _ (List.mem_of_getElem? (i := 22) rfl), rfl⟩
theorem K_oneNumber_se : Cond.selects "NumberFunctions$Machine" K_oneNumber_y K_oneNumber_y ∈ VV.ts := List.mem_filter.mpr ⟨List.mem_append_left _ (List.mem_of_getElem? (i := 23) rfl), rfl⟩
theorem K_twoNumbers_se : Cond.selects "NumberFunctions$Machine" K_twoNumbers_y K_twoNumbers_y ∈ VV.ts := List.mem_filter.mpr ⟨List.mem_append_left _ (List.mem_of_getElem? (i := 24) rfl), rfl⟩
theorem K_twoWholes_se : Cond.selects "NumberFunctions$Machine" K_twoWholes_y K_twoWholes_y ∈ VV.ts := List.mem_filter.mpr ⟨List.mem_append_left _ (List.mem_of_getElem? (i := 25) rfl), rfl⟩
theorem K_faultOfWholes_se : Cond.selects "NumberFunctions$Machine" K_faultOfWholes_y K_faultOfWholes_y ∈ VV.ts := List.mem_filter.mpr ⟨List.mem_append_left _ (List.mem_of_getElem? (i := 26) rfl), rfl⟩
theorem K_giveWhole_se : Cond.selects "NumberFunctions$Machine" K_giveWhole_y K_giveWhole_y ∈ VV.ts := List.mem_filter.mpr ⟨List.mem_append_left _ (List.mem_of_getElem? (i := 27) rfl), rfl⟩
theorem K_comparison_se : Cond.selects "NumberFunctions$Machine" K_comparison_y K_comparison_y ∈ VV.ts := List.mem_filter.mpr ⟨List.mem_append_left _ (List.mem_of_getElem? (i := 28) rfl), rfl⟩
theorem K_negation_se : Cond.selects "NumberFunctions$Machine" K_negation_y K_negation_y ∈ VV.ts := List.mem_filter.mpr ⟨List.mem_append_left _ (List.mem_of_getElem? (i := 29) rfl), rfl⟩
theorem K_logic_se : Cond.selects "NumberFunctions$Machine" K_logic_y K_logic_y ∈ VV.ts := List.mem_filter.mpr ⟨List.mem_append_left _ (List.mem_of_getElem? (i := 30) rfl), rfl⟩
theorem K_move_se : Cond.selects "NumberFunctions$Machine" K_move_y K_move_y ∈ VV.ts := List.mem_filter.mpr ⟨List.mem_append_left _ (List.mem_of_getElem? (i := 31) rfl), rfl⟩
theorem K_reverse_se : Cond.selects "NumberFunctions$Machine" K_reverse_y K_reverse_y ∈ VV.ts := List.mem_filter.mpr ⟨List.mem_append_left _ (List.mem_of_getElem? (i := 32) rfl), rfl⟩
theorem K_roll_se : Cond.selects "NumberFunctions$Machine" K_roll_y K_roll_y ∈ VV.ts := List.mem_filter.mpr ⟨List.mem_append_left _ (List.mem_of_getElem? (i := 33) rfl), rfl⟩
theorem K_turn_se : Cond.selects "NumberFunctions$Machine" K_turn_y K_turn_y ∈ VV.ts := List.mem_filter.mpr ⟨List.mem_append_left _ (List.mem_of_getElem? (i := 34) rfl), rfl⟩
theorem K_reach_se : Cond.selects "NumberFunctions$Machine" K_reach_y K_reach_y ∈ VV.ts := List.mem_filter.mpr ⟨List.mem_append_left _ (List.mem_of_getElem? (i := 35) rfl), rfl⟩
theorem K_copyUpper_se : Cond.selects "NumberFunctions$Machine" K_copyUpper_y K_copyUpper_y ∈ VV.ts := List.mem_filter.mpr ⟨List.mem_append_left _ (List.mem_of_getElem? (i := 36) rfl), rfl⟩
theorem K_choice_se : Cond.selects "NumberFunctions$Machine" K_choice_y K_choice_y ∈ VV.ts := List.mem_filter.mpr ⟨List.mem_append_left _ (List.mem_of_getElem? (i := 37) rfl), rfl⟩
theorem G_takeResults_se : Cond.selects "NumberFunctions$Program" G_takeResults_y G_takeResults_y ∈ VV.ts := List.mem_filter.mpr ⟨List.mem_append_left _ (List.mem_of_getElem? (i := 38) rfl), rfl⟩
theorem S_locate_se : Cond.selects "NumberFunctions$Samples" S_locate_y S_locate_y ∈ VV.ts := List.mem_filter.mpr ⟨List.mem_append_left _ (List.mem_of_getElem? (i := 39) rfl), rfl⟩
theorem S_between_se : Cond.selects "NumberFunctions$Samples" S_between_y S_between_y ∈ VV.ts := List.mem_filter.mpr ⟨List.mem_append_left _ (List.mem_of_getElem? (i := 40) rfl), rfl⟩
theorem S_placeOf_se : Cond.selects "NumberFunctions$Samples" S_placeOf_y S_placeOf_y ∈ VV.ts := List.mem_filter.mpr ⟨List.mem_append_left _ (List.mem_of_getElem? (i := 41) rfl), rfl⟩
theorem S_sample_se : Cond.selects "NumberFunctions$Samples" S_sample_y S_sample_y ∈ VV.ts := List.mem_filter.mpr ⟨List.mem_append_left _ (List.mem_of_getElem? (i := 42) rfl), rfl⟩
theorem S_bitAt_se : Cond.selects "NumberFunctions$Samples" S_bitAt_y S_bitAt_y ∈ VV.ts := List.mem_filter.mpr ⟨List.mem_append_left _ (List.mem_of_getElem? (i := 43) rfl), rfl⟩
theorem M_refused_se : Cond.selects "NumberFunctionsModel" M_refused_y M_refused_y ∈ VV.ts := List.mem_filter.mpr ⟨List.mem_append_left _ (List.mem_of_getElem? (i := 44) rfl), rfl⟩
theorem M_tellFault_se : Cond.selects "NumberFunctionsModel" M_tellFault_y M_tellFault_y ∈ VV.ts := List.mem_filter.mpr ⟨List.mem_append_left _ (List.mem_of_getElem? (i := 45) rfl), rfl⟩
theorem M_isTold_se : Cond.selects "NumberFunctionsModel" M_isTold_y M_isTold_y ∈ VV.ts := List.mem_filter.mpr ⟨List.mem_append_left _ (List.mem_of_getElem? (i := 46) rfl), rfl⟩
theorem M_isSamples_se : Cond.selects "NumberFunctionsModel" M_isSamples_y M_isSamples_y ∈ VV.ts := List.mem_filter.mpr ⟨List.mem_append_left _ (List.mem_of_getElem? (i := 47) rfl), rfl⟩
theorem M_isPair_se : Cond.selects "NumberFunctionsModel" M_isPair_y M_isPair_y ∈ VV.ts := List.mem_filter.mpr ⟨List.mem_append_left _ (List.mem_of_getElem? (i := 48) rfl), rfl⟩
theorem M_isPowers_se : Cond.selects "NumberFunctionsModel" M_isPowers_y M_isPowers_y ∈ VV.ts := List.mem_filter.mpr ⟨List.mem_append_left _ (List.mem_of_getElem? (i := 49) rfl), rfl⟩
theorem M_isStitched_se : Cond.selects "NumberFunctionsModel" M_isStitched_y M_isStitched_y ∈ VV.ts := List.mem_filter.mpr ⟨List.mem_append_left _ (List.mem_of_getElem? (i := 50) rfl), rfl⟩
theorem M_arePairs_se : Cond.selects "NumberFunctionsModel" M_arePairs_y M_arePairs_y ∈ VV.ts := List.mem_filter.mpr ⟨List.mem_append_left _ (List.mem_of_getElem? (i := 51) rfl), rfl⟩
theorem M_sampleBytes_se : Cond.selects "NumberFunctionsModel" M_sampleBytes_y M_sampleBytes_y ∈ VV.ts := List.mem_filter.mpr ⟨List.mem_append_left _ (List.mem_of_getElem? (i := 52) rfl), rfl⟩
theorem M_readWords_se : Cond.selects "NumberFunctionsModel" M_readWords_y M_readWords_y ∈ VV.ts := List.mem_filter.mpr ⟨List.mem_append_left _ (List.mem_of_getElem? (i := 53) rfl), rfl⟩
theorem M_signAt_se : Cond.selects "NumberFunctionsModel" M_signAt_y M_signAt_y ∈ VV.ts := List.mem_filter.mpr ⟨List.mem_append_left _ (List.mem_of_getElem? (i := 54) rfl), rfl⟩
theorem M_show_se : Cond.selects "NumberFunctionsModel" M_show_y M_show_y ∈ VV.ts := List.mem_filter.mpr ⟨List.mem_append_left _ (List.mem_of_getElem? (i := 55) rfl), rfl⟩
theorem M_isWord_se : Cond.selects "NumberFunctionsModel" M_isWord_y M_isWord_y ∈ VV.ts := List.mem_filter.mpr ⟨List.mem_append_left _ (List.mem_of_getElem? (i := 56) rfl), rfl⟩
theorem M_checkWord_se : Cond.selects "NumberFunctionsModel" M_checkWord_y M_checkWord_y ∈ VV.ts := List.mem_filter.mpr ⟨List.mem_append_left _ (List.mem_of_getElem? (i := 57) rfl), rfl⟩
theorem M_isNumber_se : Cond.selects "NumberFunctionsModel" M_isNumber_y M_isNumber_y ∈ VV.ts := List.mem_filter.mpr ⟨List.mem_append_left _ (List.mem_of_getElem? (i := 58) rfl), rfl⟩
theorem M_partOf_se : Cond.selects "NumberFunctionsModel" M_partOf_y M_partOf_y ∈ VV.ts := List.mem_filter.mpr ⟨List.mem_append_left _ (List.mem_of_getElem? (i := 59) rfl), rfl⟩
theorem M_nameOf_se : Cond.selects "NumberFunctionsModel" M_nameOf_y M_nameOf_y ∈ VV.ts := List.mem_filter.mpr ⟨List.mem_append_left _ (List.mem_of_getElem? (i := 60) rfl), rfl⟩
theorem M_stitched_se : Cond.selects "NumberFunctionsModel" M_stitched_y M_stitched_y ∈ VV.ts := List.mem_filter.mpr ⟨List.mem_append_left _ (List.mem_of_getElem? (i := 61) rfl), rfl⟩
theorem M_of_se : Cond.selects "NumberFunctionsModel" M_of_y M_of_y ∈ VV.ts := List.mem_filter.mpr ⟨List.mem_append_left _ (List.mem_of_getElem? (i := 62) rfl), rfl⟩
theorem M_samples_se : Cond.selects "NumberFunctionsModel" M_samples_y M_samples_y ∈ VV.ts := List.mem_filter.mpr ⟨List.mem_append_left _ (List.mem_of_getElem? (i := 63) rfl), rfl⟩
theorem M_inputOf_se : Cond.selects "NumberFunctionsModel" M_inputOf_y M_inputOf_y ∈ VV.ts := List.mem_filter.mpr ⟨List.mem_append_left _ (List.mem_of_getElem? (i := 64) rfl), rfl⟩
theorem M_interpolated_se : Cond.selects "NumberFunctionsModel" M_interpolated_y M_interpolated_y ∈ VV.ts := List.mem_filter.mpr ⟨List.mem_append_left _ (List.mem_of_getElem? (i := 65) rfl), rfl⟩
theorem M_sampleAt_se : Cond.selects "NumberFunctionsModel" M_sampleAt_y M_sampleAt_y ∈ VV.ts := List.mem_filter.mpr ⟨List.mem_append_left _ (List.mem_of_getElem? (i := 66) rfl), rfl⟩
theorem M_decoded_se : Cond.selects "NumberFunctionsModel" M_decoded_y M_decoded_y ∈ VV.ts := List.mem_filter.mpr ⟨List.mem_append_left _ (List.mem_of_getElem? (i := 67) rfl), rfl⟩
theorem M_powers_se : Cond.selects "NumberFunctionsModel" M_powers_y M_powers_y ∈ VV.ts := List.mem_filter.mpr ⟨List.mem_append_left _ (List.mem_of_getElem? (i := 68) rfl), rfl⟩
theorem M_program_se : Cond.selects "NumberFunctionsModel" M_program_y M_program_y ∈ VV.ts := List.mem_filter.mpr ⟨List.mem_append_left _ (List.mem_of_getElem? (i := 69) rfl), rfl⟩
theorem M_isGood_se : Cond.selects "NumberFunctionsModel" M_isGood_y M_isGood_y ∈ VV.ts := List.mem_filter.mpr ⟨List.mem_append_left _ (List.mem_of_getElem? (i := 70) rfl), rfl⟩
theorem M_next_se : Cond.selects "NumberFunctionsModel" M_next_y M_next_y ∈ VV.ts := List.mem_filter.mpr ⟨List.mem_append_left _ (List.mem_of_getElem? (i := 71) rfl), rfl⟩
theorem M_choose_se : Cond.selects "NumberFunctionsModel" M_choose_y M_choose_y ∈ VV.ts := List.mem_filter.mpr ⟨List.mem_append_left _ (List.mem_of_getElem? (i := 72) rfl), rfl⟩
theorem M_matchOf_se : Cond.selects "NumberFunctionsModel" M_matchOf_y M_matchOf_y ∈ VV.ts := List.mem_filter.mpr ⟨List.mem_append_left _ (List.mem_of_getElem? (i := 73) rfl), rfl⟩
theorem M_has_se : Cond.selects "NumberFunctionsModel" M_has_y M_has_y ∈ VV.ts := List.mem_filter.mpr ⟨List.mem_append_left _ (List.mem_of_getElem? (i := 74) rfl), rfl⟩
theorem M_fail_se : Cond.selects "NumberFunctionsModel" M_fail_y M_fail_y ∈ VV.ts := List.mem_filter.mpr ⟨List.mem_append_left _ (List.mem_of_getElem? (i := 75) rfl), rfl⟩
theorem M_take_se : Cond.selects "NumberFunctionsModel" M_take_y M_take_y ∈ VV.ts := List.mem_filter.mpr ⟨List.mem_append_left _ (List.mem_of_getElem? (i := 76) rfl), rfl⟩
theorem M_putNumber_se : Cond.selects "NumberFunctionsModel" M_putNumber_y M_putNumber_y ∈ VV.ts := List.mem_filter.mpr ⟨List.mem_append_left _ (List.mem_of_getElem? (i := 77) rfl), rfl⟩
theorem M_put_se : Cond.selects "NumberFunctionsModel" M_put_y M_put_y ∈ VV.ts := List.mem_filter.mpr ⟨List.mem_append_left _ (List.mem_of_getElem? (i := 78) rfl), rfl⟩
theorem M_perform_se : Cond.selects "NumberFunctionsModel" M_perform_y M_perform_y ∈ VV.ts := List.mem_filter.mpr ⟨List.mem_append_left _ (List.mem_of_getElem? (i := 79) rfl), rfl⟩
theorem M_one_se : Cond.selects "NumberFunctionsModel" M_one_y M_one_y ∈ VV.ts := List.mem_filter.mpr ⟨List.mem_append_left _ (List.mem_of_getElem? (i := 80) rfl), rfl⟩
theorem M_areNumbers_se : Cond.selects "NumberFunctionsModel" M_areNumbers_y M_areNumbers_y ∈ VV.ts := List.mem_filter.mpr ⟨List.mem_append_left _ (List.mem_of_getElem? (i := 81) rfl), rfl⟩
theorem M_two_se : Cond.selects "NumberFunctionsModel" M_two_y M_two_y ∈ VV.ts := List.mem_filter.mpr ⟨List.mem_append_left _ (List.mem_of_getElem? (i := 82) rfl), rfl⟩
theorem M_areWhole_se : Cond.selects "NumberFunctionsModel" M_areWhole_y M_areWhole_y ∈ VV.ts := List.mem_filter.mpr ⟨List.mem_append_left _ (List.mem_of_getElem? (i := 83) rfl), rfl⟩
theorem M_compare_se : Cond.selects "NumberFunctionsModel" M_compare_y M_compare_y ∈ VV.ts := List.mem_filter.mpr ⟨List.mem_append_left _ (List.mem_of_getElem? (i := 84) rfl), rfl⟩
theorem M_putTruth_se : Cond.selects "NumberFunctionsModel" M_putTruth_y M_putTruth_y ∈ VV.ts := List.mem_filter.mpr ⟨List.mem_append_left _ (List.mem_of_getElem? (i := 85) rfl), rfl⟩
theorem M_bits_se : Cond.selects "NumberFunctionsModel" M_bits_y M_bits_y ∈ VV.ts := List.mem_filter.mpr ⟨List.mem_append_left _ (List.mem_of_getElem? (i := 86) rfl), rfl⟩
theorem M_join_se : Cond.selects "NumberFunctionsModel" M_join_y M_join_y ∈ VV.ts := List.mem_filter.mpr ⟨List.mem_append_left _ (List.mem_of_getElem? (i := 87) rfl), rfl⟩
theorem M_not_se : Cond.selects "NumberFunctionsModel" M_not_y M_not_y ∈ VV.ts := List.mem_filter.mpr ⟨List.mem_append_left _ (List.mem_of_getElem? (i := 88) rfl), rfl⟩
theorem M_shift_se : Cond.selects "NumberFunctionsModel" M_shift_y M_shift_y ∈ VV.ts := List.mem_filter.mpr ⟨List.mem_append_left _ (List.mem_of_getElem? (i := 89) rfl), rfl⟩
theorem M_move_se : Cond.selects "NumberFunctionsModel" M_move_y M_move_y ∈ VV.ts := List.mem_filter.mpr ⟨List.mem_append_left _ (List.mem_of_getElem? (i := 90) rfl), rfl⟩
theorem M_turn_se : Cond.selects "NumberFunctionsModel" M_turn_y M_turn_y ∈ VV.ts := List.mem_filter.mpr ⟨List.mem_append_left _ (List.mem_of_getElem? (i := 91) rfl), rfl⟩
theorem M_copy_se : Cond.selects "NumberFunctionsModel" M_copy_y M_copy_y ∈ VV.ts := List.mem_filter.mpr ⟨List.mem_append_left _ (List.mem_of_getElem? (i := 92) rfl), rfl⟩
theorem M_isAmount_se : Cond.selects "NumberFunctionsModel" M_isAmount_y M_isAmount_y ∈ VV.ts := List.mem_filter.mpr ⟨List.mem_append_left _ (List.mem_of_getElem? (i := 93) rfl), rfl⟩
theorem M_index_se : Cond.selects "NumberFunctionsModel" M_index_y M_index_y ∈ VV.ts := List.mem_filter.mpr ⟨List.mem_append_left _ (List.mem_of_getElem? (i := 94) rfl), rfl⟩
theorem M_roll_se : Cond.selects "NumberFunctionsModel" M_roll_y M_roll_y ∈ VV.ts := List.mem_filter.mpr ⟨List.mem_append_left _ (List.mem_of_getElem? (i := 95) rfl), rfl⟩
