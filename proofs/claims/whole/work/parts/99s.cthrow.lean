/-! THE CLASS's refusals -/
theorem x_03 {x : Int32} (h1 : ¬ x < 0) (h2 : ¬ (Int32.ofInt 4) ≤ x) : 0 ≤ x.toInt ∧ x.toInt ≤ 3 := by
  have a := Int32.le_iff_toInt_le.mp (Int32.not_lt.mp h1)
  have b := Int32.lt_iff_toInt_lt.mp (Int32.not_le.mp h2)
  have e0 : (0 : Int32).toInt = 0 := rfl
  have e4 : (Int32.ofInt 4).toInt = 4 := rfl
  omega
theorem x_0n {x : Int32} {n : Nat} (h1 : ¬ x < 0) (h2 : ¬ nI n ≤ x) (hn : n ≤ 24) : 0 ≤ x.toInt ∧ x.toInt ≤ (n : Int) - 1 := by
  have a := Int32.le_iff_toInt_le.mp (Int32.not_lt.mp h1)
  have b := Int32.lt_iff_toInt_lt.mp (Int32.not_le.mp h2)
  have e0 : (0 : Int32).toInt = 0 := rfl
  have en : (nI n).toInt = n := by rw [iZ_n]; exact iZ_t ⟨by omega, by omega⟩
  omega
theorem tk_of {kd x y : Int32} (h1 : ¬ x < Int32.ofInt 1) (h2 : x ≤ (if kd = 0 then 3 else if kd = 2 ∨ kd = 3 then 1 else if kd = 4 then 4 else 0)) (h3 : ¬ y < Int32.ofInt 1) (h4 : y ≤ Int32.ofInt 4) : tp_k kd x y := by
  have a := Int32.le_iff_toInt_le.mp (Int32.not_lt.mp h1)
  have b := Int32.le_iff_toInt_le.mp h2
  have c := Int32.le_iff_toInt_le.mp (Int32.not_lt.mp h3)
  have d := Int32.le_iff_toInt_le.mp h4
  have e0 : (0 : Int32).toInt = 0 := rfl
  have e1 : (Int32.ofInt 1).toInt = 1 := rfl
  have e1' : (1 : Int32).toInt = 1 := rfl
  have e3 : (3 : Int32).toInt = 3 := rfl
  have e4 : (Int32.ofInt 4).toInt = 4 := rfl
  have e4' : (4 : Int32).toInt = 4 := rfl
  by_cases k0 : kd = 0
  · rw [if_pos k0] at b h2
    exact ⟨⟨⟨by omega, by omega⟩, by omega, by omega⟩, Or.inl ⟨k0, h2⟩⟩
  · rw [if_neg k0] at b h2
    by_cases k2 : kd = 2 ∨ kd = 3
    · rw [if_pos k2] at b h2
      refine ⟨⟨⟨by omega, by omega⟩, by omega, by omega⟩, Or.inr (Or.inl ⟨k2, ?_⟩)⟩
      exact Int32.le_antisymm h2 (Int32.not_lt.mp h1)
    · rw [if_neg k2] at b h2
      by_cases k4 : kd = 4
      · rw [if_pos k4] at b h2
        exact ⟨⟨⟨by omega, by omega⟩, by omega, by omega⟩, Or.inr (Or.inr k4)⟩
      · rw [if_neg k4] at b
        omega

set_option maxHeartbeats 4000000 in
set_option maxRecDepth 100000 in
theorem N_cutT_m {l : Launch} {G : ax_G} (hl0 : l.stackTraces = false) (S : x_S) (tl : List va_E) (w : Int32) (hw : w < 0) :
    AT l VV G N_cut_y N_cut_c 3 (some .int) 6 [.ref 132, .int w] (x_hC S tl) 10 := by
  refine AT.of (pl := pl_N) (by decide) v_good fl_N_ok kl_N_ok nofun (Nat.le_of_ble_eq_true rfl) ?_
  intro p0v e0v s0v m0v args below meth c0v X hNE hLS
  refine AW.run X N_cut_d 0 1 rfl ?_
  refine AW.if_ge X (N_cut_d.d 1 rfl) (fun q1 => absurd hw (Int32.not_lt.mpr q1)) (fun q1 => ?_)
  exact AW.throwS X hNE hLS hl0 (T0 := Cl_EA) (names := ["java/lang/RuntimeException", "java/lang/Exception"]) rfl ck_N_68 N_EA I_EA (List.mem_of_getElem? (i := 0) rfl) (by decide) (by decide) own_EA ⟨by decide, by decide, by decide, by decide⟩ (N_cut_d.d 2 rfl) (N_cut_d.d 3 rfl) (N_cut_d.d 4 rfl) (N_cut_d.d 5 rfl) (N_cut_d.d 6 rfl)

set_option maxHeartbeats 4000000 in
set_option maxRecDepth 100000 in
theorem N_tellT_m {l : Launch} {G : ax_G} (hl0 : l.stackTraces = false) (S : x_S) (tl : List va_E) (w : Int32) (hw : ¬ zN w.toInt) :
    AT l VV G N_tell_y N_tell_c 2 (some .int) 6 [.ref 132, .int w] (x_hC S tl) 10 := by
  refine AT.of (pl := pl_N) (by decide) v_good fl_N_ok kl_N_ok nofun (Nat.le_of_ble_eq_true rfl) ?_
  intro p0v e0v s0v m0v args below meth c0v X hNE hLS
  refine AW.run X N_tell_d 0 1 rfl ?_
  refine AW.callS (As := [.int w]) X (N_isNumber_m w) cb_N_81 N_isNumber_st rfl ⟨Nat.le_of_ble_eq_true rfl, Nat.le_of_ble_eq_true rfl⟩ (Nat.le_of_ble_eq_true rfl) ⟨Nat.le_of_ble_eq_true rfl, Nat.le_of_ble_eq_true rfl⟩ (N_tell_d.d 1 rfl) (fun v h' q => ?_)
  obtain ⟨rfl, rfl⟩ := q
  refine AW.if_ne X (N_tell_d.d 2 rfl) (fun q2 => absurd (dq_t.mp q2) hw) (fun q2 => ?_)
  exact AW.throwS X hNE hLS hl0 (T0 := Cl_EA) (names := ["java/lang/RuntimeException", "java/lang/Exception"]) rfl ck_N_68 N_EA I_EA (List.mem_of_getElem? (i := 1) rfl) (by decide) (by decide) own_EA ⟨by decide, by decide, by decide, by decide⟩ (N_tell_d.d 3 rfl) (N_tell_d.d 4 rfl) (N_tell_d.d 5 rfl) (N_tell_d.d 6 rfl) (N_tell_d.d 7 rfl)

set_option maxHeartbeats 4000000 in
set_option maxRecDepth 100000 in
theorem N_tellU_m {l : Launch} {G : ax_G} (hl0 : l.stackTraces = false) (S : x_S) (tl : List va_E) (w : Int32) (hw : zN w.toInt) (hc : S.1 2 = nI 96) :
    AT l VV G N_tell_y N_tell_c 2 (some .int) 6 [.ref 132, .int w] (x_hC S tl) 11 := by
  refine AT.of (pl := pl_N) (by decide) v_good fl_N_ok kl_N_ok nofun (Nat.le_of_ble_eq_true rfl) ?_
  intro p0v e0v s0v m0v args below meth c0v X hNE hLS
  refine AW.run X N_tell_d 0 1 rfl ?_
  refine AW.callS (As := [.int w]) X (N_isNumber_m w) cb_N_81 N_isNumber_st rfl ⟨Nat.le_of_ble_eq_true rfl, Nat.le_of_ble_eq_true rfl⟩ (Nat.le_of_ble_eq_true rfl) ⟨Nat.le_of_ble_eq_true rfl, Nat.le_of_ble_eq_true rfl⟩ (N_tell_d.d 1 rfl) (fun v h' q => ?_)
  obtain ⟨rfl, rfl⟩ := q
  refine AW.if_ne X (N_tell_d.d 2 rfl) (fun q2 => ?_) (fun q2 => absurd (dq_f.mp q2) (fun z => z hw))
  refine AW.run X N_tell_d 8 4 rfl ?_
  refine AW.icmp_lt X (N_tell_d.d 12 rfl) (fun q12 => absurd q12 (by rw [hc]; decide)) (fun q12 => ?_)
  exact AW.throwS X hNE hLS hl0 (T0 := Cl_ES) (names := ["java/lang/RuntimeException", "java/lang/Exception"]) rfl ck_N_90 N_ES I_ES (List.mem_of_getElem? (i := 2) rfl) (by decide) (by decide) own_ES ⟨by decide, by decide, by decide, by decide⟩ (N_tell_d.d 13 rfl) (N_tell_d.d 14 rfl) (N_tell_d.d 15 rfl) (N_tell_d.d 16 rfl) (N_tell_d.d 17 rfl)

set_option maxHeartbeats 4000000 in
set_option maxRecDepth 100000 in
theorem N_makeT_m {l : Launch} {G : ax_G} (hl0 : l.stackTraces = false) (S : x_S) (tl : List va_E) (kd x y : Int32) (hk : ¬ tp_k kd x y) :
    AT l VV G N_make_y N_make_c 5 (some .int) 6 [.ref 132, .int kd, .int x, .int y] (x_hC S tl) 10 := by
  refine AT.of (pl := pl_N) (by decide) v_good fl_N_ok kl_N_ok nofun (Nat.le_of_ble_eq_true rfl) ?_
  intro p0v e0v s0v m0v args below meth c0v X hNE hLS
  refine AW.run X N_make_d 0 2 rfl ?_
  refine AW.icmp_lt X (N_make_d.d 2 rfl) (fun q2 => ?_) (fun q2 => ?_)
  · exact AW.throwS X hNE hLS hl0 (T0 := Cl_EA) (names := ["java/lang/RuntimeException", "java/lang/Exception"]) rfl ck_N_68 N_EA I_EA (List.mem_of_getElem? (i := 3) rfl) (by decide) (by decide) own_EA ⟨by decide, by decide, by decide, by decide⟩ (N_make_d.d 7 rfl) (N_make_d.d 8 rfl) (N_make_d.d 9 rfl) (N_make_d.d 10 rfl) (N_make_d.d 11 rfl)
  · refine AW.run X N_make_d 3 2 rfl ?_
    refine AW.callS (As := [.int kd]) X (N_inputLimit_m kd) cb_N_98 N_inputLimit_st rfl ⟨Nat.le_of_ble_eq_true rfl, Nat.le_of_ble_eq_true rfl⟩ (Nat.le_of_ble_eq_true rfl) ⟨Nat.le_of_ble_eq_true rfl, Nat.le_of_ble_eq_true rfl⟩ (N_make_d.d 5 rfl) (fun v h' q => ?_)
    obtain ⟨rfl, rfl⟩ := q
    refine AW.icmp_le X (N_make_d.d 6 rfl) (fun q6 => ?_) (fun q6 => ?_)
    · refine AW.run X N_make_d 12 2 rfl ?_
      refine AW.icmp_lt X (N_make_d.d 14 rfl) (fun q14 => ?_) (fun q14 => ?_)
      · exact AW.throwS X hNE hLS hl0 (T0 := Cl_EA) (names := ["java/lang/RuntimeException", "java/lang/Exception"]) rfl ck_N_68 N_EA I_EA (List.mem_of_getElem? (i := 4) rfl) (by decide) (by decide) own_EA ⟨by decide, by decide, by decide, by decide⟩ (N_make_d.d 18 rfl) (N_make_d.d 19 rfl) (N_make_d.d 20 rfl) (N_make_d.d 21 rfl) (N_make_d.d 22 rfl)
      · refine AW.run X N_make_d 15 2 rfl ?_
        refine AW.icmp_le X (N_make_d.d 17 rfl) (fun q17 => absurd (tk_of q2 q6 q14 q17) hk) (fun q17 => ?_)
        exact AW.throwS X hNE hLS hl0 (T0 := Cl_EA) (names := ["java/lang/RuntimeException", "java/lang/Exception"]) rfl ck_N_68 N_EA I_EA (List.mem_of_getElem? (i := 4) rfl) (by decide) (by decide) own_EA ⟨by decide, by decide, by decide, by decide⟩ (N_make_d.d 18 rfl) (N_make_d.d 19 rfl) (N_make_d.d 20 rfl) (N_make_d.d 21 rfl) (N_make_d.d 22 rfl)
    · exact AW.throwS X hNE hLS hl0 (T0 := Cl_EA) (names := ["java/lang/RuntimeException", "java/lang/Exception"]) rfl ck_N_68 N_EA I_EA (List.mem_of_getElem? (i := 3) rfl) (by decide) (by decide) own_EA ⟨by decide, by decide, by decide, by decide⟩ (N_make_d.d 7 rfl) (N_make_d.d 8 rfl) (N_make_d.d 9 rfl) (N_make_d.d 10 rfl) (N_make_d.d 11 rfl)

set_option maxHeartbeats 4000000 in
set_option maxRecDepth 100000 in
theorem N_makeU_m {l : Launch} {G : ax_G} (hl0 : l.stackTraces = false) (S : x_S) (tl : List va_E) (kd x y : Int32) (h1 : ¬ x < 1) (h2 : x ≤ kL kd) (h3 : ¬ y < 1) (h4 : y ≤ 4) (hc : S.1 1 = nI 24) :
    AT l VV G N_make_y N_make_c 5 (some .int) 6 [.ref 132, .int kd, .int x, .int y] (x_hC S tl) 11 := by
  refine AT.of (pl := pl_N) (by decide) v_good fl_N_ok kl_N_ok nofun (Nat.le_of_ble_eq_true rfl) ?_
  intro p0v e0v s0v m0v args below meth c0v X hNE hLS
  refine AW.run X N_make_d 0 2 rfl ?_
  refine AW.icmp_lt X (N_make_d.d 2 rfl) (fun q2 => absurd q2 h1) (fun q2 => ?_)
  refine AW.run X N_make_d 3 2 rfl ?_
  refine AW.callS (As := [.int kd]) X (N_inputLimit_m kd) cb_N_98 N_inputLimit_st rfl ⟨Nat.le_of_ble_eq_true rfl, Nat.le_of_ble_eq_true rfl⟩ (Nat.le_of_ble_eq_true rfl) ⟨Nat.le_of_ble_eq_true rfl, Nat.le_of_ble_eq_true rfl⟩ (N_make_d.d 5 rfl) (fun v h' q => ?_)
  obtain ⟨rfl, rfl⟩ := q
  refine AW.icmp_le X (N_make_d.d 6 rfl) (fun q6 => ?_) (fun q6 => absurd h2 q6)
  refine AW.run X N_make_d 12 2 rfl ?_
  refine AW.icmp_lt X (N_make_d.d 14 rfl) (fun q14 => absurd q14 h3) (fun q14 => ?_)
  refine AW.run X N_make_d 15 2 rfl ?_
  refine AW.icmp_le X (N_make_d.d 17 rfl) (fun q17 => ?_) (fun q17 => absurd h4 q17)
  refine AW.run X N_make_d 23 3 rfl ?_
  refine AW.icmp_lt X (N_make_d.d 26 rfl) (fun q26 => absurd q26 (by rw [hc]; decide)) (fun q26 => ?_)
  exact AW.throwS X hNE hLS hl0 (T0 := Cl_ES) (names := ["java/lang/RuntimeException", "java/lang/Exception"]) rfl ck_N_90 N_ES I_ES (List.mem_of_getElem? (i := 5) rfl) (by decide) (by decide) own_ES ⟨by decide, by decide, by decide, by decide⟩ (N_make_d.d 27 rfl) (N_make_d.d 28 rfl) (N_make_d.d 29 rfl) (N_make_d.d 30 rfl) (N_make_d.d 31 rfl)

set_option maxHeartbeats 4000000 in
set_option maxRecDepth 100000 in
theorem N_inputT_m {l : Launch} {G : ax_G} (hl0 : l.stackTraces = false) (S : x_S) (tl : List va_E) (x w : Int32) (hk : ¬ ((0 ≤ x.toInt ∧ x.toInt ≤ 3) ∧ zN w.toInt)) :
    AT l VV G N_input_y N_input_c 4 (some .int) 6 [.ref 132, .int x, .int w] (x_hC S tl) 10 := by
  refine AT.of (pl := pl_N) (by decide) v_good fl_N_ok kl_N_ok nofun (Nat.le_of_ble_eq_true rfl) ?_
  intro p0v e0v s0v m0v args below meth c0v X hNE hLS
  refine AW.run X N_input_d 0 1 rfl ?_
  refine AW.if_lt X (N_input_d.d 1 rfl) (fun q1 => ?_) (fun q1 => ?_)
  · exact AW.throwS X hNE hLS hl0 (T0 := Cl_EA) (names := ["java/lang/RuntimeException", "java/lang/Exception"]) rfl ck_N_68 N_EA I_EA (List.mem_of_getElem? (i := 6) rfl) (by decide) (by decide) own_EA ⟨by decide, by decide, by decide, by decide⟩ (N_input_d.d 8 rfl) (N_input_d.d 9 rfl) (N_input_d.d 10 rfl) (N_input_d.d 11 rfl) (N_input_d.d 12 rfl)
  · refine AW.run X N_input_d 2 2 rfl ?_
    refine AW.icmp_ge X (N_input_d.d 4 rfl) (fun q4 => ?_) (fun q4 => ?_)
    · exact AW.throwS X hNE hLS hl0 (T0 := Cl_EA) (names := ["java/lang/RuntimeException", "java/lang/Exception"]) rfl ck_N_68 N_EA I_EA (List.mem_of_getElem? (i := 6) rfl) (by decide) (by decide) own_EA ⟨by decide, by decide, by decide, by decide⟩ (N_input_d.d 8 rfl) (N_input_d.d 9 rfl) (N_input_d.d 10 rfl) (N_input_d.d 11 rfl) (N_input_d.d 12 rfl)
    · refine AW.run X N_input_d 5 1 rfl ?_
      refine AW.callS (As := [.int w]) X (N_isNumber_m w) cb_N_81 N_isNumber_st rfl ⟨Nat.le_of_ble_eq_true rfl, Nat.le_of_ble_eq_true rfl⟩ (Nat.le_of_ble_eq_true rfl) ⟨Nat.le_of_ble_eq_true rfl, Nat.le_of_ble_eq_true rfl⟩ (N_input_d.d 6 rfl) (fun v h' q => ?_)
      obtain ⟨rfl, rfl⟩ := q
      refine AW.if_ne X (N_input_d.d 7 rfl) (fun q7 => absurd ⟨x_03 q1 q4, dq_t.mp q7⟩ hk) (fun q7 => ?_)
      exact AW.throwS X hNE hLS hl0 (T0 := Cl_EA) (names := ["java/lang/RuntimeException", "java/lang/Exception"]) rfl ck_N_68 N_EA I_EA (List.mem_of_getElem? (i := 6) rfl) (by decide) (by decide) own_EA ⟨by decide, by decide, by decide, by decide⟩ (N_input_d.d 8 rfl) (N_input_d.d 9 rfl) (N_input_d.d 10 rfl) (N_input_d.d 11 rfl) (N_input_d.d 12 rfl)

set_option maxHeartbeats 4000000 in
set_option maxRecDepth 100000 in
theorem N_callT_m {l : Launch} {G : ax_G} (hl0 : l.stackTraces = false) (S : x_S) (tl : List va_E) (w : Int32) (nf : Nat) (hn : nf ≤ 24) (hc : S.1 1 = nI nf) (hw : ¬ (0 ≤ w.toInt ∧ w.toInt ≤ (nf : Int) - 1)) :
    AT l VV G N_call_y N_call_c 4 (some .int) 6 [.ref 132, .int w] (x_hC S tl) 12 := by
  refine AT.of (pl := pl_N) (by decide) v_good fl_N_ok kl_N_ok nofun (Nat.le_of_ble_eq_true rfl) ?_
  intro p0v e0v s0v m0v args below meth c0v X hNE hLS
  refine AW.run X N_call_d 0 1 rfl ?_
  refine AW.if_lt X (N_call_d.d 1 rfl) (fun q1 => ?_) (fun q1 => ?_)
  · exact AW.throwS X hNE hLS hl0 (T0 := Cl_EI) (names := ["java/lang/RuntimeException", "java/lang/Exception"]) rfl ck_N_118 N_EI I_EI (List.mem_of_getElem? (i := 7) rfl) (by decide) (by decide) own_EI ⟨by decide, by decide, by decide, by decide⟩ (N_call_d.d 11 rfl) (N_call_d.d 12 rfl) (N_call_d.d 13 rfl) (N_call_d.d 14 rfl) (N_call_d.d 15 rfl)
  · refine AW.run X N_call_d 2 3 rfl ?_
    refine AW.icmp_ge X (N_call_d.d 5 rfl) (fun q5 => ?_) (fun q5 => absurd (x_0n q1 (by rw [← hc]; exact q5) hn) hw)
    exact AW.throwS X hNE hLS hl0 (T0 := Cl_EI) (names := ["java/lang/RuntimeException", "java/lang/Exception"]) rfl ck_N_118 N_EI I_EI (List.mem_of_getElem? (i := 7) rfl) (by decide) (by decide) own_EI ⟨by decide, by decide, by decide, by decide⟩ (N_call_d.d 11 rfl) (N_call_d.d 12 rfl) (N_call_d.d 13 rfl) (N_call_d.d 14 rfl) (N_call_d.d 15 rfl)

set_option maxHeartbeats 4000000 in
set_option maxRecDepth 100000 in
theorem N_outputT_m {l : Launch} {G : ax_G} (hl0 : l.stackTraces = false) (S : x_S) (tl : List va_E) (x : Int32) (hk : ¬ (0 ≤ x.toInt ∧ x.toInt ≤ 3)) :
    AT l VV G N_output_y N_output_c 2 (some .int) 6 [.ref 132, .int x] (x_hC S tl) 10 := by
  refine AT.of (pl := pl_N) (by decide) v_good fl_N_ok kl_N_ok nofun (Nat.le_of_ble_eq_true rfl) ?_
  intro p0v e0v s0v m0v args below meth c0v X hNE hLS
  refine AW.run X N_output_d 0 1 rfl ?_
  refine AW.if_lt X (N_output_d.d 1 rfl) (fun q1 => ?_) (fun q1 => ?_)
  · exact AW.throwS X hNE hLS hl0 (T0 := Cl_EA) (names := ["java/lang/RuntimeException", "java/lang/Exception"]) rfl ck_N_68 N_EA I_EA (List.mem_of_getElem? (i := 8) rfl) (by decide) (by decide) own_EA ⟨by decide, by decide, by decide, by decide⟩ (N_output_d.d 5 rfl) (N_output_d.d 6 rfl) (N_output_d.d 7 rfl) (N_output_d.d 8 rfl) (N_output_d.d 9 rfl)
  · refine AW.run X N_output_d 2 2 rfl ?_
    refine AW.icmp_lt X (N_output_d.d 4 rfl) (fun q4 => absurd (x_03 q1 (Int32.not_le.mpr q4)) hk) (fun q4 => ?_)
    exact AW.throwS X hNE hLS hl0 (T0 := Cl_EA) (names := ["java/lang/RuntimeException", "java/lang/Exception"]) rfl ck_N_68 N_EA I_EA (List.mem_of_getElem? (i := 8) rfl) (by decide) (by decide) own_EA ⟨by decide, by decide, by decide, by decide⟩ (N_output_d.d 5 rfl) (N_output_d.d 6 rfl) (N_output_d.d 7 rfl) (N_output_d.d 8 rfl) (N_output_d.d 9 rfl)

