theorem abs_z {a : Int} (h : zN a) : (if 0 ≤ iZ a then iZ a else -iZ a) = iZ (if a < 0 then -a else a) := by
  rw [show (0 : Int32) = iZ 0 from rfl]
  by_cases z : a < 0
  · rw [if_neg (fun q => by have := (iZ_le ⟨by decide, by decide⟩ (zN_I h)).mp q; omega), if_pos z, iZ_neg]
  · rw [if_pos ((iZ_le ⟨by decide, by decide⟩ (zN_I h)).mpr (by omega)), if_neg z]
theorem bI_f0 {b : Bool} (q : bI b = 0) : b = false := (bI_0 b).mp q
theorem zN_neg {a : Int} (h : zN a) : zN (-a) := ⟨by have := h.2; omega, by have := h.1; omega⟩
theorem zI_fl {a : Int} (h : zN a) : zI (zfl a) ∧ zI (-zfl a) := by
  have h1 := h.1
  have h2 := h.2
  unfold zfl
  rw [Int.fdiv_eq_ediv_of_nonneg _ (by decide)]
  exact ⟨⟨by omega, by omega⟩, ⟨by omega, by omega⟩⟩
theorem zI_L {a : Int} (h : zI a) : zL a := ⟨by have := h.1; omega, by have := h.2; omega⟩
theorem zL_fl {a : Int} (h : zN a) : zL (zfl a) ∧ zL (-zfl a) := ⟨zI_L (zI_fl h).1, zI_L (zI_fl h).2⟩
theorem zI_f3 {a : Int} (h : zN a) : zI (zfl (a + 32768)) := by
  have h1 := h.1
  have h2 := h.2
  unfold zfl
  rw [Int.fdiv_eq_ediv_of_nonneg _ (by decide)]
  exact ⟨by omega, by omega⟩
theorem zL_f3 {a : Int} (h : zN a) : zL (zfl (a + 32768)) := zI_L (zI_f3 h)
theorem zI_tr {a : Int} (h : zN a) : zI (ztr a) := by
  rcases Int.lt_or_le a 0 with z | z
  · rw [← zfl_n z]; exact (zI_fl (zN_neg h)).2
  · rw [← zfl_p z]; exact (zI_fl h).1
theorem zL_tr {a : Int} (h : zN a) : zL (ztr a) := zI_L (zI_tr h)
theorem zisr_ex {a : Int} (h : zN a) (h0 : 0 ≤ a) : ∃ r, zisr a r ∧ r ≤ 16777216 := by
  have H : ∀ (k : Nat) (r : Int), 0 ≤ r → r + 2 ^ k ≤ 16777216 → r * r / 65536 ≤ a → a < (r + 2 ^ k) * (r + 2 ^ k) / 65536 → ∃ r, zisr a r ∧ r ≤ 16777216 := by
    intro k
    induction k with
    | zero => intro r h1 h2 h3 h4; exact ⟨r, ⟨h1, h3, h4⟩, by have e : (2 : Int) ^ 0 = 1 := rfl; omega⟩
    | succ k ih =>
      intro r h1 h2 h3 h4
      have hp : (0 : Int) < 2 ^ k := Int.pow_pos (by decide)
      have e2 : (2 : Int) ^ (k + 1) = 2 ^ k + 2 ^ k := by rw [Int.pow_succ]; omega
      rw [e2] at h2 h4
      rcases Int.lt_or_le a ((r + 2 ^ k) * (r + 2 ^ k) / 65536) with z | z
      · exact ih r h1 (by omega) h3 z
      · exact ih (r + 2 ^ k) (by omega) (by omega) z (by rw [Int.add_assoc]; exact h4)
  exact H 24 0 (by decide) (by decide) (by show (0 : Int) * 0 / 65536 ≤ a; exact h0) (by have := h.2; rw [root_c]; omega)
theorem zI_root {a : Int} (h : zN a) (h0 : 0 ≤ a) : zI (zroot a) := by
  obtain ⟨r, hr, h1⟩ := zisr_ex h h0
  rw [zroot_eq hr]
  exact ⟨by have := hr.1; omega, by omega⟩
theorem zL_root {a : Int} (h : zN a) (h0 : 0 ≤ a) : zL (zroot a) := zI_L (zI_root h h0)
theorem zL_add {a b : Int} (h : zN a) (g : zN b) : zL (a + b) := ⟨by have := h.1; have := g.1; omega, by have := h.2; have := g.2; omega⟩
theorem zL_sub {a b : Int} (h : zN a) (g : zN b) : zL (a - b) := ⟨by have := h.1; have := g.2; omega, by have := h.2; have := g.1; omega⟩
set_option maxHeartbeats 4000000 in
set_option maxRecDepth 100000 in
theorem K_ofOneNumber5_m {l : Launch} {G : ax_G} (S : x_S) (tl : List va_E) (a : Int) (ha : zN a) :
    AM l VV G K_ofOneNumber_y K_ofOneNumber_c 2 (some .int) 2 0 0 [.ref 5, .int (iZ a)] (x_hC S tl) (fun v h' => v = some (.int (iZ (if a < 0 then -a else a))) ∧ h' = x_hC S tl) := by
  refine AM.of (pl := pl_K) (by decide) v_good fl_K_ok kl_K_ok nofun (Nat.le_of_ble_eq_true rfl) ?_
  intro p e s m args below meth c X
  refine AW.gets X gs_K_100.1 gs_K_100.2 (K_ofOneNumber_d.d 0 rfl) ?_
  refine AW.run X K_ofOneNumber_d 1 1 rfl ?_
  refine AW.callU (rc := ("NumberFunctions$Word", Cl_O, 4)) (As := []) X (JEnum_ordinal_m 5 (by decide) (x_w S tl)) cu_K_105_O rfl rfl rfl ⟨Nat.le_of_ble_eq_true rfl, Nat.le_of_ble_eq_true rfl⟩ (Nat.le_of_ble_eq_true rfl) ⟨Nat.le_of_ble_eq_true rfl, Nat.le_of_ble_eq_true rfl⟩ (K_ofOneNumber_d.d 2 rfl) (fun v h' q => ?_)
  obtain ⟨rfl, rfl⟩ := q
  refine AW.tiald (j := 5) X (List.mem_of_getElem? (i := 1) rfl) rfl (by decide) (by decide) (K_ofOneNumber_d.d 3 rfl) ?_
  refine AW.tableIn X (K_ofOneNumber_d.d 4 rfl) (by decide) (by decide) (off := 48) (by decide) ?_
  refine AW.run X K_ofOneNumber_d 5 1 rfl ?_
  refine AW.callS (As := [.int (iZ a)]) X (JMath_abs_m (iZ a)) cb_K_108 JMath_abs_st rfl ⟨Nat.le_of_ble_eq_true rfl, Nat.le_of_ble_eq_true rfl⟩ (Nat.le_of_ble_eq_true rfl) ⟨Nat.le_of_ble_eq_true rfl, Nat.le_of_ble_eq_true rfl⟩ (K_ofOneNumber_d.d 6 rfl) (fun v h' q => ?_)
  obtain ⟨rfl, rfl⟩ := q
  exact AW.iret X (K_ofOneNumber_d.d 7 rfl) (Nat.le_of_ble_eq_true rfl) (Nat.le_of_ble_eq_true rfl) ⟨by rw [abs_z ha], rfl⟩

set_option maxHeartbeats 4000000 in
set_option maxRecDepth 100000 in
theorem K_ofOneNumber6_m {l : Launch} {G : ax_G} (S : x_S) (tl : List va_E) (a : Int) (ha : zN a) :
    AM l VV G K_ofOneNumber_y K_ofOneNumber_c 2 (some .int) 2 0 0 [.ref 6, .int (iZ a)] (x_hC S tl) (fun v h' => v = some (.int (iZ (-a))) ∧ h' = x_hC S tl) := by
  refine AM.of (pl := pl_K) (by decide) v_good fl_K_ok kl_K_ok nofun (Nat.le_of_ble_eq_true rfl) ?_
  intro p e s m args below meth c X
  refine AW.gets X gs_K_100.1 gs_K_100.2 (K_ofOneNumber_d.d 0 rfl) ?_
  refine AW.run X K_ofOneNumber_d 1 1 rfl ?_
  refine AW.callU (rc := ("NumberFunctions$Word", Cl_O, 4)) (As := []) X (JEnum_ordinal_m 6 (by decide) (x_w S tl)) cu_K_105_O rfl rfl rfl ⟨Nat.le_of_ble_eq_true rfl, Nat.le_of_ble_eq_true rfl⟩ (Nat.le_of_ble_eq_true rfl) ⟨Nat.le_of_ble_eq_true rfl, Nat.le_of_ble_eq_true rfl⟩ (K_ofOneNumber_d.d 2 rfl) (fun v h' q => ?_)
  obtain ⟨rfl, rfl⟩ := q
  refine AW.tiald (j := 6) X (List.mem_of_getElem? (i := 1) rfl) rfl (by decide) (by decide) (K_ofOneNumber_d.d 3 rfl) ?_
  refine AW.tableIn X (K_ofOneNumber_d.d 4 rfl) (by decide) (by decide) (off := 53) (by decide) ?_
  refine AW.run X K_ofOneNumber_d 8 2 rfl ?_
  exact AW.iret X (K_ofOneNumber_d.d 10 rfl) (Nat.le_of_ble_eq_true rfl) (Nat.le_of_ble_eq_true rfl) ⟨by rw [iZ_neg], rfl⟩

set_option maxHeartbeats 4000000 in
set_option maxRecDepth 100000 in
theorem K_ofOneNumber7_m {l : Launch} {G : ax_G} (S : x_S) (tl : List va_E) (a : Int) (ha : zN a) :
    AM l VV G K_ofOneNumber_y K_ofOneNumber_c 2 (some .int) 2 0 0 [.ref 7, .int (iZ a)] (x_hC S tl) (fun v h' => v = some (.int (iZ (-zfl (-a)))) ∧ h' = x_hC S tl) := by
  refine AM.of (pl := pl_K) (by decide) v_good fl_K_ok kl_K_ok nofun (Nat.le_of_ble_eq_true rfl) ?_
  intro p e s m args below meth c X
  refine AW.gets X gs_K_100.1 gs_K_100.2 (K_ofOneNumber_d.d 0 rfl) ?_
  refine AW.run X K_ofOneNumber_d 1 1 rfl ?_
  refine AW.callU (rc := ("NumberFunctions$Word", Cl_O, 4)) (As := []) X (JEnum_ordinal_m 7 (by decide) (x_w S tl)) cu_K_105_O rfl rfl rfl ⟨Nat.le_of_ble_eq_true rfl, Nat.le_of_ble_eq_true rfl⟩ (Nat.le_of_ble_eq_true rfl) ⟨Nat.le_of_ble_eq_true rfl, Nat.le_of_ble_eq_true rfl⟩ (K_ofOneNumber_d.d 2 rfl) (fun v h' q => ?_)
  obtain ⟨rfl, rfl⟩ := q
  refine AW.tiald (j := 7) X (List.mem_of_getElem? (i := 1) rfl) rfl (by decide) (by decide) (K_ofOneNumber_d.d 3 rfl) ?_
  refine AW.tableIn X (K_ofOneNumber_d.d 4 rfl) (by decide) (by decide) (off := 56) (by decide) ?_
  refine AW.run X K_ofOneNumber_d 11 2 rfl ?_
  rw [iZ_neg]
  refine AW.callS (As := [.int (iZ (-a))]) X (B_floor_m (-a) ⟨by have := ha.2; omega, by have := ha.1; omega⟩) cb_K_114 B_floor_st rfl ⟨Nat.le_of_ble_eq_true rfl, Nat.le_of_ble_eq_true rfl⟩ (Nat.le_of_ble_eq_true rfl) ⟨Nat.le_of_ble_eq_true rfl, Nat.le_of_ble_eq_true rfl⟩ (K_ofOneNumber_d.d 13 rfl) (fun v h' q => ?_)
  obtain ⟨rfl, rfl⟩ := q
  refine AW.run X K_ofOneNumber_d 14 1 rfl ?_
  exact AW.iret X (K_ofOneNumber_d.d 15 rfl) (Nat.le_of_ble_eq_true rfl) (Nat.le_of_ble_eq_true rfl) ⟨by rw [iZ_neg], rfl⟩

set_option maxHeartbeats 4000000 in
set_option maxRecDepth 100000 in
theorem K_ofOneNumber8_m {l : Launch} {G : ax_G} (S : x_S) (tl : List va_E) (a : Int) (ha : zN a) :
    AM l VV G K_ofOneNumber_y K_ofOneNumber_c 2 (some .int) 2 0 0 [.ref 8, .int (iZ a)] (x_hC S tl) (fun v h' => v = some (.int (iZ (zfl a))) ∧ h' = x_hC S tl) := by
  refine AM.of (pl := pl_K) (by decide) v_good fl_K_ok kl_K_ok nofun (Nat.le_of_ble_eq_true rfl) ?_
  intro p e s m args below meth c X
  refine AW.gets X gs_K_100.1 gs_K_100.2 (K_ofOneNumber_d.d 0 rfl) ?_
  refine AW.run X K_ofOneNumber_d 1 1 rfl ?_
  refine AW.callU (rc := ("NumberFunctions$Word", Cl_O, 4)) (As := []) X (JEnum_ordinal_m 8 (by decide) (x_w S tl)) cu_K_105_O rfl rfl rfl ⟨Nat.le_of_ble_eq_true rfl, Nat.le_of_ble_eq_true rfl⟩ (Nat.le_of_ble_eq_true rfl) ⟨Nat.le_of_ble_eq_true rfl, Nat.le_of_ble_eq_true rfl⟩ (K_ofOneNumber_d.d 2 rfl) (fun v h' q => ?_)
  obtain ⟨rfl, rfl⟩ := q
  refine AW.tiald (j := 8) X (List.mem_of_getElem? (i := 1) rfl) rfl (by decide) (by decide) (K_ofOneNumber_d.d 3 rfl) ?_
  refine AW.tableIn X (K_ofOneNumber_d.d 4 rfl) (by decide) (by decide) (off := 63) (by decide) ?_
  refine AW.run X K_ofOneNumber_d 16 1 rfl ?_
  refine AW.callS (As := [.int (iZ a)]) X (B_floor_m a (zN_I ha)) cb_K_114 B_floor_st rfl ⟨Nat.le_of_ble_eq_true rfl, Nat.le_of_ble_eq_true rfl⟩ (Nat.le_of_ble_eq_true rfl) ⟨Nat.le_of_ble_eq_true rfl, Nat.le_of_ble_eq_true rfl⟩ (K_ofOneNumber_d.d 17 rfl) (fun v h' q => ?_)
  obtain ⟨rfl, rfl⟩ := q
  exact AW.iret X (K_ofOneNumber_d.d 18 rfl) (Nat.le_of_ble_eq_true rfl) (Nat.le_of_ble_eq_true rfl) ⟨rfl, rfl⟩

set_option maxHeartbeats 4000000 in
set_option maxRecDepth 100000 in
theorem K_ofOneNumber9_m {l : Launch} {G : ax_G} (S : x_S) (tl : List va_E) (a : Int) (ha : zN a) :
    AM l VV G K_ofOneNumber_y K_ofOneNumber_c 2 (some .int) 2 0 0 [.ref 9, .int (iZ a)] (x_hC S tl) (fun v h' => v = some (.int (iZ (zfl (a + 32768)))) ∧ h' = x_hC S tl) := by
  refine AM.of (pl := pl_K) (by decide) v_good fl_K_ok kl_K_ok nofun (Nat.le_of_ble_eq_true rfl) ?_
  intro p e s m args below meth c X
  refine AW.gets X gs_K_100.1 gs_K_100.2 (K_ofOneNumber_d.d 0 rfl) ?_
  refine AW.run X K_ofOneNumber_d 1 1 rfl ?_
  refine AW.callU (rc := ("NumberFunctions$Word", Cl_O, 4)) (As := []) X (JEnum_ordinal_m 9 (by decide) (x_w S tl)) cu_K_105_O rfl rfl rfl ⟨Nat.le_of_ble_eq_true rfl, Nat.le_of_ble_eq_true rfl⟩ (Nat.le_of_ble_eq_true rfl) ⟨Nat.le_of_ble_eq_true rfl, Nat.le_of_ble_eq_true rfl⟩ (K_ofOneNumber_d.d 2 rfl) (fun v h' q => ?_)
  obtain ⟨rfl, rfl⟩ := q
  refine AW.tiald (j := 9) X (List.mem_of_getElem? (i := 1) rfl) rfl (by decide) (by decide) (K_ofOneNumber_d.d 3 rfl) ?_
  refine AW.tableIn X (K_ofOneNumber_d.d 4 rfl) (by decide) (by decide) (off := 68) (by decide) ?_
  refine AW.run X K_ofOneNumber_d 19 3 rfl ?_
  rw [show iZ a + (32768 : Int32) = iZ (a + 32768) from iZ_add a 32768]
  refine AW.callS (As := [.int (iZ (a + 32768))]) X (B_floor_m (a + 32768) ⟨by have := ha.1; omega, by have := ha.2; omega⟩) cb_K_114 B_floor_st rfl ⟨Nat.le_of_ble_eq_true rfl, Nat.le_of_ble_eq_true rfl⟩ (Nat.le_of_ble_eq_true rfl) ⟨Nat.le_of_ble_eq_true rfl, Nat.le_of_ble_eq_true rfl⟩ (K_ofOneNumber_d.d 22 rfl) (fun v h' q => ?_)
  obtain ⟨rfl, rfl⟩ := q
  exact AW.iret X (K_ofOneNumber_d.d 23 rfl) (Nat.le_of_ble_eq_true rfl) (Nat.le_of_ble_eq_true rfl) ⟨rfl, rfl⟩

set_option maxHeartbeats 4000000 in
set_option maxRecDepth 100000 in
theorem K_ofOneNumber10_m {l : Launch} {G : ax_G} (S : x_S) (tl : List va_E) (a : Int) (ha : zN a) :
    AM l VV G K_ofOneNumber_y K_ofOneNumber_c 2 (some .int) 2 0 0 [.ref 10, .int (iZ a)] (x_hC S tl) (fun v h' => v = some (.int (iZ (ztr a))) ∧ h' = x_hC S tl) := by
  refine AM.of (pl := pl_K) (by decide) v_good fl_K_ok kl_K_ok nofun (Nat.le_of_ble_eq_true rfl) ?_
  intro p e s m args below meth c X
  refine AW.gets X gs_K_100.1 gs_K_100.2 (K_ofOneNumber_d.d 0 rfl) ?_
  refine AW.run X K_ofOneNumber_d 1 1 rfl ?_
  refine AW.callU (rc := ("NumberFunctions$Word", Cl_O, 4)) (As := []) X (JEnum_ordinal_m 10 (by decide) (x_w S tl)) cu_K_105_O rfl rfl rfl ⟨Nat.le_of_ble_eq_true rfl, Nat.le_of_ble_eq_true rfl⟩ (Nat.le_of_ble_eq_true rfl) ⟨Nat.le_of_ble_eq_true rfl, Nat.le_of_ble_eq_true rfl⟩ (K_ofOneNumber_d.d 2 rfl) (fun v h' q => ?_)
  obtain ⟨rfl, rfl⟩ := q
  refine AW.tiald (j := 10) X (List.mem_of_getElem? (i := 1) rfl) rfl (by decide) (by decide) (K_ofOneNumber_d.d 3 rfl) ?_
  refine AW.tableIn X (K_ofOneNumber_d.d 4 rfl) (by decide) (by decide) (off := 76) (by decide) ?_
  refine AW.run X K_ofOneNumber_d 24 1 rfl ?_
  refine AW.callS (As := [.int (iZ a)]) X (B_truncate_m a ha) cb_K_118 B_truncate_st rfl ⟨Nat.le_of_ble_eq_true rfl, Nat.le_of_ble_eq_true rfl⟩ (Nat.le_of_ble_eq_true rfl) ⟨Nat.le_of_ble_eq_true rfl, Nat.le_of_ble_eq_true rfl⟩ (K_ofOneNumber_d.d 25 rfl) (fun v h' q => ?_)
  obtain ⟨rfl, rfl⟩ := q
  exact AW.iret X (K_ofOneNumber_d.d 26 rfl) (Nat.le_of_ble_eq_true rfl) (Nat.le_of_ble_eq_true rfl) ⟨rfl, rfl⟩

set_option maxHeartbeats 4000000 in
set_option maxRecDepth 100000 in
theorem K_ofOneNumber11_m {l : Launch} {G : ax_G} (S : x_S) (tl : List va_E) (a : Int) (ha : zN a) :
    AM l VV G K_ofOneNumber_y K_ofOneNumber_c 2 (some .int) 2 0 0 [.ref 11, .int (iZ a)] (x_hC S tl) (fun v h' => v = some (.int (iZ (ztr a))) ∧ h' = x_hC S tl) := by
  refine AM.of (pl := pl_K) (by decide) v_good fl_K_ok kl_K_ok nofun (Nat.le_of_ble_eq_true rfl) ?_
  intro p e s m args below meth c X
  refine AW.gets X gs_K_100.1 gs_K_100.2 (K_ofOneNumber_d.d 0 rfl) ?_
  refine AW.run X K_ofOneNumber_d 1 1 rfl ?_
  refine AW.callU (rc := ("NumberFunctions$Word", Cl_O, 4)) (As := []) X (JEnum_ordinal_m 11 (by decide) (x_w S tl)) cu_K_105_O rfl rfl rfl ⟨Nat.le_of_ble_eq_true rfl, Nat.le_of_ble_eq_true rfl⟩ (Nat.le_of_ble_eq_true rfl) ⟨Nat.le_of_ble_eq_true rfl, Nat.le_of_ble_eq_true rfl⟩ (K_ofOneNumber_d.d 2 rfl) (fun v h' q => ?_)
  obtain ⟨rfl, rfl⟩ := q
  refine AW.tiald (j := 11) X (List.mem_of_getElem? (i := 1) rfl) rfl (by decide) (by decide) (K_ofOneNumber_d.d 3 rfl) ?_
  refine AW.tableIn X (K_ofOneNumber_d.d 4 rfl) (by decide) (by decide) (off := 76) (by decide) ?_
  refine AW.run X K_ofOneNumber_d 24 1 rfl ?_
  refine AW.callS (As := [.int (iZ a)]) X (B_truncate_m a ha) cb_K_118 B_truncate_st rfl ⟨Nat.le_of_ble_eq_true rfl, Nat.le_of_ble_eq_true rfl⟩ (Nat.le_of_ble_eq_true rfl) ⟨Nat.le_of_ble_eq_true rfl, Nat.le_of_ble_eq_true rfl⟩ (K_ofOneNumber_d.d 25 rfl) (fun v h' q => ?_)
  obtain ⟨rfl, rfl⟩ := q
  exact AW.iret X (K_ofOneNumber_d.d 26 rfl) (Nat.le_of_ble_eq_true rfl) (Nat.le_of_ble_eq_true rfl) ⟨rfl, rfl⟩

set_option maxHeartbeats 4000000 in
set_option maxRecDepth 100000 in
theorem K_ofOneNumber12_m {l : Launch} {G : ax_G} (S : x_S) (tl : List va_E) (a : Int) (ha : zN a) :
    AM l VV G K_ofOneNumber_y K_ofOneNumber_c 2 (some .int) 2 0 0 [.ref 12, .int (iZ a)] (x_hC S tl) (fun v h' => v = some (.int (iZ a)) ∧ h' = x_hC S tl) := by
  refine AM.of (pl := pl_K) (by decide) v_good fl_K_ok kl_K_ok nofun (Nat.le_of_ble_eq_true rfl) ?_
  intro p e s m args below meth c X
  refine AW.gets X gs_K_100.1 gs_K_100.2 (K_ofOneNumber_d.d 0 rfl) ?_
  refine AW.run X K_ofOneNumber_d 1 1 rfl ?_
  refine AW.callU (rc := ("NumberFunctions$Word", Cl_O, 4)) (As := []) X (JEnum_ordinal_m 12 (by decide) (x_w S tl)) cu_K_105_O rfl rfl rfl ⟨Nat.le_of_ble_eq_true rfl, Nat.le_of_ble_eq_true rfl⟩ (Nat.le_of_ble_eq_true rfl) ⟨Nat.le_of_ble_eq_true rfl, Nat.le_of_ble_eq_true rfl⟩ (K_ofOneNumber_d.d 2 rfl) (fun v h' q => ?_)
  obtain ⟨rfl, rfl⟩ := q
  refine AW.tiald (j := 12) X (List.mem_of_getElem? (i := 1) rfl) rfl (by decide) (by decide) (K_ofOneNumber_d.d 3 rfl) ?_
  refine AW.tableOut X (K_ofOneNumber_d.d 4 rfl) (by decide) ?_
  refine AW.run X K_ofOneNumber_d 30 1 rfl ?_
  exact AW.iret X (K_ofOneNumber_d.d 31 rfl) (Nat.le_of_ble_eq_true rfl) (Nat.le_of_ble_eq_true rfl) ⟨rfl, rfl⟩

set_option maxHeartbeats 4000000 in
set_option maxRecDepth 100000 in
theorem K_ofOneNumber13_m {l : Launch} {G : ax_G} (S : x_S) (tl : List va_E) (a : Int) (ha : zN a) (h0 : 0 ≤ a) :
    AM l VV G K_ofOneNumber_y K_ofOneNumber_c 2 (some .int) 2 0 0 [.ref 13, .int (iZ a)] (x_hC S tl) (fun v h' => v = some (.int (iZ (zroot a))) ∧ h' = x_hC S tl) := by
  refine AM.of (pl := pl_K) (by decide) v_good fl_K_ok kl_K_ok nofun (Nat.le_of_ble_eq_true rfl) ?_
  intro p e s m args below meth c X
  refine AW.gets X gs_K_100.1 gs_K_100.2 (K_ofOneNumber_d.d 0 rfl) ?_
  refine AW.run X K_ofOneNumber_d 1 1 rfl ?_
  refine AW.callU (rc := ("NumberFunctions$Word", Cl_O, 4)) (As := []) X (JEnum_ordinal_m 13 (by decide) (x_w S tl)) cu_K_105_O rfl rfl rfl ⟨Nat.le_of_ble_eq_true rfl, Nat.le_of_ble_eq_true rfl⟩ (Nat.le_of_ble_eq_true rfl) ⟨Nat.le_of_ble_eq_true rfl, Nat.le_of_ble_eq_true rfl⟩ (K_ofOneNumber_d.d 2 rfl) (fun v h' q => ?_)
  obtain ⟨rfl, rfl⟩ := q
  refine AW.tiald (j := 13) X (List.mem_of_getElem? (i := 1) rfl) rfl (by decide) (by decide) (K_ofOneNumber_d.d 3 rfl) ?_
  refine AW.tableIn X (K_ofOneNumber_d.d 4 rfl) (by decide) (by decide) (off := 81) (by decide) ?_
  refine AW.run X K_ofOneNumber_d 27 1 rfl ?_
  refine AW.callS (As := [.int (iZ a)]) X (B_root_m a ha h0) cb_K_121 B_root_st rfl ⟨Nat.le_of_ble_eq_true rfl, Nat.le_of_ble_eq_true rfl⟩ (Nat.le_of_ble_eq_true rfl) ⟨Nat.le_of_ble_eq_true rfl, Nat.le_of_ble_eq_true rfl⟩ (K_ofOneNumber_d.d 28 rfl) (fun v h' q => ?_)
  obtain ⟨rfl, rfl⟩ := q
  exact AW.iret X (K_ofOneNumber_d.d 29 rfl) (Nat.le_of_ble_eq_true rfl) (Nat.le_of_ble_eq_true rfl) ⟨rfl, rfl⟩

set_option maxHeartbeats 4000000 in
set_option maxRecDepth 100000 in
theorem K_oneNumber5_m {l : Launch} {G : ax_G} (S : x_S) (tl : List va_E) (n : Nat) (u : Nat → Int) (t : Nat → Bool) (hW : WS n u t) (hK : KS S n u t) (hn : 1 ≤ n) (num : Int) :
    AM l VV G K_oneNumber_y K_oneNumber_c 3 (some .int) 3 0 0 [.ref 150, .ref 5] (x_hC S tl) (fun v h' => kp S tl (pS 5 num n u t) v h') := by
  refine AM.of (pl := pl_K) (by decide) v_good fl_K_ok kl_K_ok nofun (Nat.le_of_ble_eq_true rfl) ?_
  intro p e s m args below meth c X
  refine AW.run X K_oneNumber_d 0 6 rfl ?_
  refine AW.cl12 (j := n - 1) X (hK.i (k := 1) (by omega)) (by have := hW.1; omega) (K_oneNumber_d.d 6 rfl) ?_
  rw [(hK.2 (n - 1) (by omega)).1]
  refine AW.run X K_oneNumber_d 7 7 rfl ?_
  refine AW.cl13 (j := n - 1) X (hK.i (k := 1) (by omega)) (by have := hW.1; omega) (K_oneNumber_d.d 14 rfl) ?_
  rw [(hK.2 (n - 1) (by omega)).2]
  refine AW.if_eq X (K_oneNumber_d.d 15 rfl) (fun q15 => ?_) (fun q15 => ?_)
  · refine AW.run X K_oneNumber_d 18 1 rfl ?_
    refine AW.gets X gs_K_94.1 gs_K_94.2 (K_oneNumber_d.d 19 rfl) ?_
    refine AW.acmp_ne X (some 5) (some 13) (Or.inl (by decide)) (Or.inl (by decide)) (K_oneNumber_d.d 20 rfl) (fun q => ?_) (fun q => absurd q (by decide))
    refine AW.run X K_oneNumber_d 25 4 rfl ?_
    refine AW.callS (As := [.ref 5, .int (iZ (u (n - 1)))]) X (K_ofOneNumber5_m S tl (u (n - 1)) (hW.2 (n - 1) (by omega)).1) cb_K_97 K_ofOneNumber_st rfl ⟨Nat.le_of_ble_eq_true rfl, Nat.le_of_ble_eq_true rfl⟩ (Nat.le_of_ble_eq_true rfl) ⟨Nat.le_of_ble_eq_true rfl, Nat.le_of_ble_eq_true rfl⟩ (K_oneNumber_d.d 29 rfl) (fun v h' q => ?_)
    obtain ⟨rfl, rfl⟩ := q
    refine AW.run X K_oneNumber_d 30 2 rfl ?_
    rw [show (iZ (if u (n - 1) < 0 then -u (n - 1) else u (n - 1))).toInt64 = lZ (if u (n - 1) < 0 then -u (n - 1) else u (n - 1)) from iZ_l (by have := (hW.2 (n - 1) (by omega)).1.1; have := (hW.2 (n - 1) (by omega)).1.2; constructor <;> split <;> omega)]
    refine AW.callV (As := [.int (nI 1), .long (lZ (if u (n - 1) < 0 then -u (n - 1) else u (n - 1))), .int (bI (false))]) X (K_give_m S tl n 1 u t hW hK (if u (n - 1) < 0 then -u (n - 1) else u (n - 1)) false (by omega) (by have := (hW.2 (n - 1) (by omega)).1.1; have := (hW.2 (n - 1) (by omega)).1.2; constructor <;> split <;> omega)) cb_K_80 rfl rfl K_give_im K_give_se rfl ⟨Nat.le_of_ble_eq_true rfl, Nat.le_of_ble_eq_true rfl⟩ (Nat.le_of_ble_eq_true rfl) ⟨Nat.le_of_ble_eq_true rfl, Nat.le_of_ble_eq_true rfl⟩ (K_oneNumber_d.d 32 rfl) (fun v h' q => ?_)
    obtain ⟨rfl, q⟩ := q
    exact AW.iret X (K_oneNumber_d.d 33 rfl) (Nat.le_of_ble_eq_true rfl) (Nat.le_of_ble_eq_true rfl) (kp_eq (by rw [pS_5]; unfold p1; rw [if_neg (by omega), if_neg (by rw [(bI_0 _).mp q15]; decide), if_neg Bool.false_ne_true]) ⟨rfl, q⟩)
  · refine AW.run X K_oneNumber_d 16 1 rfl ?_
    exact AW.iret X (K_oneNumber_d.d 17 rfl) (Nat.le_of_ble_eq_true rfl) (Nat.le_of_ble_eq_true rfl) (kp_e (c := 10) (by rw [pS_5]; unfold p1; rw [if_neg (by omega), if_pos (Bool.of_not_eq_false (fun z => q15 ((bI_0 _).mpr z)))]; rfl) (by decide) rfl)

set_option maxHeartbeats 4000000 in
set_option maxRecDepth 100000 in
theorem K_oneNumber6_m {l : Launch} {G : ax_G} (S : x_S) (tl : List va_E) (n : Nat) (u : Nat → Int) (t : Nat → Bool) (hW : WS n u t) (hK : KS S n u t) (hn : 1 ≤ n) (num : Int) :
    AM l VV G K_oneNumber_y K_oneNumber_c 3 (some .int) 3 0 0 [.ref 150, .ref 6] (x_hC S tl) (fun v h' => kp S tl (pS 6 num n u t) v h') := by
  refine AM.of (pl := pl_K) (by decide) v_good fl_K_ok kl_K_ok nofun (Nat.le_of_ble_eq_true rfl) ?_
  intro p e s m args below meth c X
  refine AW.run X K_oneNumber_d 0 6 rfl ?_
  refine AW.cl12 (j := n - 1) X (hK.i (k := 1) (by omega)) (by have := hW.1; omega) (K_oneNumber_d.d 6 rfl) ?_
  rw [(hK.2 (n - 1) (by omega)).1]
  refine AW.run X K_oneNumber_d 7 7 rfl ?_
  refine AW.cl13 (j := n - 1) X (hK.i (k := 1) (by omega)) (by have := hW.1; omega) (K_oneNumber_d.d 14 rfl) ?_
  rw [(hK.2 (n - 1) (by omega)).2]
  refine AW.if_eq X (K_oneNumber_d.d 15 rfl) (fun q15 => ?_) (fun q15 => ?_)
  · refine AW.run X K_oneNumber_d 18 1 rfl ?_
    refine AW.gets X gs_K_94.1 gs_K_94.2 (K_oneNumber_d.d 19 rfl) ?_
    refine AW.acmp_ne X (some 6) (some 13) (Or.inl (by decide)) (Or.inl (by decide)) (K_oneNumber_d.d 20 rfl) (fun q => ?_) (fun q => absurd q (by decide))
    refine AW.run X K_oneNumber_d 25 4 rfl ?_
    refine AW.callS (As := [.ref 6, .int (iZ (u (n - 1)))]) X (K_ofOneNumber6_m S tl (u (n - 1)) (hW.2 (n - 1) (by omega)).1) cb_K_97 K_ofOneNumber_st rfl ⟨Nat.le_of_ble_eq_true rfl, Nat.le_of_ble_eq_true rfl⟩ (Nat.le_of_ble_eq_true rfl) ⟨Nat.le_of_ble_eq_true rfl, Nat.le_of_ble_eq_true rfl⟩ (K_oneNumber_d.d 29 rfl) (fun v h' q => ?_)
    obtain ⟨rfl, rfl⟩ := q
    refine AW.run X K_oneNumber_d 30 2 rfl ?_
    rw [show (iZ (-u (n - 1))).toInt64 = lZ (-u (n - 1)) from iZ_l (by exact zN_I (zN_neg (hW.2 (n - 1) (by omega)).1))]
    refine AW.callV (As := [.int (nI 1), .long (lZ (-u (n - 1))), .int (bI (false))]) X (K_give_m S tl n 1 u t hW hK (-u (n - 1)) false (by omega) (zN_L (zN_neg (hW.2 (n - 1) (by omega)).1))) cb_K_80 rfl rfl K_give_im K_give_se rfl ⟨Nat.le_of_ble_eq_true rfl, Nat.le_of_ble_eq_true rfl⟩ (Nat.le_of_ble_eq_true rfl) ⟨Nat.le_of_ble_eq_true rfl, Nat.le_of_ble_eq_true rfl⟩ (K_oneNumber_d.d 32 rfl) (fun v h' q => ?_)
    obtain ⟨rfl, q⟩ := q
    exact AW.iret X (K_oneNumber_d.d 33 rfl) (Nat.le_of_ble_eq_true rfl) (Nat.le_of_ble_eq_true rfl) (kp_eq (by rw [pS_6]; unfold p1; rw [if_neg (by omega), if_neg (by rw [(bI_0 _).mp q15]; decide), if_neg Bool.false_ne_true]) ⟨rfl, q⟩)
  · refine AW.run X K_oneNumber_d 16 1 rfl ?_
    exact AW.iret X (K_oneNumber_d.d 17 rfl) (Nat.le_of_ble_eq_true rfl) (Nat.le_of_ble_eq_true rfl) (kp_e (c := 10) (by rw [pS_6]; unfold p1; rw [if_neg (by omega), if_pos (Bool.of_not_eq_false (fun z => q15 ((bI_0 _).mpr z)))]; rfl) (by decide) rfl)

set_option maxHeartbeats 4000000 in
set_option maxRecDepth 100000 in
theorem K_oneNumber7_m {l : Launch} {G : ax_G} (S : x_S) (tl : List va_E) (n : Nat) (u : Nat → Int) (t : Nat → Bool) (hW : WS n u t) (hK : KS S n u t) (hn : 1 ≤ n) (num : Int) :
    AM l VV G K_oneNumber_y K_oneNumber_c 3 (some .int) 3 0 0 [.ref 150, .ref 7] (x_hC S tl) (fun v h' => kp S tl (pS 7 num n u t) v h') := by
  refine AM.of (pl := pl_K) (by decide) v_good fl_K_ok kl_K_ok nofun (Nat.le_of_ble_eq_true rfl) ?_
  intro p e s m args below meth c X
  refine AW.run X K_oneNumber_d 0 6 rfl ?_
  refine AW.cl12 (j := n - 1) X (hK.i (k := 1) (by omega)) (by have := hW.1; omega) (K_oneNumber_d.d 6 rfl) ?_
  rw [(hK.2 (n - 1) (by omega)).1]
  refine AW.run X K_oneNumber_d 7 7 rfl ?_
  refine AW.cl13 (j := n - 1) X (hK.i (k := 1) (by omega)) (by have := hW.1; omega) (K_oneNumber_d.d 14 rfl) ?_
  rw [(hK.2 (n - 1) (by omega)).2]
  refine AW.if_eq X (K_oneNumber_d.d 15 rfl) (fun q15 => ?_) (fun q15 => ?_)
  · refine AW.run X K_oneNumber_d 18 1 rfl ?_
    refine AW.gets X gs_K_94.1 gs_K_94.2 (K_oneNumber_d.d 19 rfl) ?_
    refine AW.acmp_ne X (some 7) (some 13) (Or.inl (by decide)) (Or.inl (by decide)) (K_oneNumber_d.d 20 rfl) (fun q => ?_) (fun q => absurd q (by decide))
    refine AW.run X K_oneNumber_d 25 4 rfl ?_
    refine AW.callS (As := [.ref 7, .int (iZ (u (n - 1)))]) X (K_ofOneNumber7_m S tl (u (n - 1)) (hW.2 (n - 1) (by omega)).1) cb_K_97 K_ofOneNumber_st rfl ⟨Nat.le_of_ble_eq_true rfl, Nat.le_of_ble_eq_true rfl⟩ (Nat.le_of_ble_eq_true rfl) ⟨Nat.le_of_ble_eq_true rfl, Nat.le_of_ble_eq_true rfl⟩ (K_oneNumber_d.d 29 rfl) (fun v h' q => ?_)
    obtain ⟨rfl, rfl⟩ := q
    refine AW.run X K_oneNumber_d 30 2 rfl ?_
    rw [show (iZ (-zfl (-u (n - 1)))).toInt64 = lZ (-zfl (-u (n - 1))) from iZ_l (by exact (zI_fl (zN_neg (hW.2 (n - 1) (by omega)).1)).2)]
    refine AW.callV (As := [.int (nI 1), .long (lZ (-zfl (-u (n - 1)))), .int (bI (false))]) X (K_give_m S tl n 1 u t hW hK (-zfl (-u (n - 1))) false (by omega) (zL_fl (zN_neg (hW.2 (n - 1) (by omega)).1)).2) cb_K_80 rfl rfl K_give_im K_give_se rfl ⟨Nat.le_of_ble_eq_true rfl, Nat.le_of_ble_eq_true rfl⟩ (Nat.le_of_ble_eq_true rfl) ⟨Nat.le_of_ble_eq_true rfl, Nat.le_of_ble_eq_true rfl⟩ (K_oneNumber_d.d 32 rfl) (fun v h' q => ?_)
    obtain ⟨rfl, q⟩ := q
    exact AW.iret X (K_oneNumber_d.d 33 rfl) (Nat.le_of_ble_eq_true rfl) (Nat.le_of_ble_eq_true rfl) (kp_eq (by rw [pS_7]; unfold p1; rw [if_neg (by omega), if_neg (by rw [(bI_0 _).mp q15]; decide), if_neg Bool.false_ne_true]) ⟨rfl, q⟩)
  · refine AW.run X K_oneNumber_d 16 1 rfl ?_
    exact AW.iret X (K_oneNumber_d.d 17 rfl) (Nat.le_of_ble_eq_true rfl) (Nat.le_of_ble_eq_true rfl) (kp_e (c := 10) (by rw [pS_7]; unfold p1; rw [if_neg (by omega), if_pos (Bool.of_not_eq_false (fun z => q15 ((bI_0 _).mpr z)))]; rfl) (by decide) rfl)

set_option maxHeartbeats 4000000 in
set_option maxRecDepth 100000 in
theorem K_oneNumber8_m {l : Launch} {G : ax_G} (S : x_S) (tl : List va_E) (n : Nat) (u : Nat → Int) (t : Nat → Bool) (hW : WS n u t) (hK : KS S n u t) (hn : 1 ≤ n) (num : Int) :
    AM l VV G K_oneNumber_y K_oneNumber_c 3 (some .int) 3 0 0 [.ref 150, .ref 8] (x_hC S tl) (fun v h' => kp S tl (pS 8 num n u t) v h') := by
  refine AM.of (pl := pl_K) (by decide) v_good fl_K_ok kl_K_ok nofun (Nat.le_of_ble_eq_true rfl) ?_
  intro p e s m args below meth c X
  refine AW.run X K_oneNumber_d 0 6 rfl ?_
  refine AW.cl12 (j := n - 1) X (hK.i (k := 1) (by omega)) (by have := hW.1; omega) (K_oneNumber_d.d 6 rfl) ?_
  rw [(hK.2 (n - 1) (by omega)).1]
  refine AW.run X K_oneNumber_d 7 7 rfl ?_
  refine AW.cl13 (j := n - 1) X (hK.i (k := 1) (by omega)) (by have := hW.1; omega) (K_oneNumber_d.d 14 rfl) ?_
  rw [(hK.2 (n - 1) (by omega)).2]
  refine AW.if_eq X (K_oneNumber_d.d 15 rfl) (fun q15 => ?_) (fun q15 => ?_)
  · refine AW.run X K_oneNumber_d 18 1 rfl ?_
    refine AW.gets X gs_K_94.1 gs_K_94.2 (K_oneNumber_d.d 19 rfl) ?_
    refine AW.acmp_ne X (some 8) (some 13) (Or.inl (by decide)) (Or.inl (by decide)) (K_oneNumber_d.d 20 rfl) (fun q => ?_) (fun q => absurd q (by decide))
    refine AW.run X K_oneNumber_d 25 4 rfl ?_
    refine AW.callS (As := [.ref 8, .int (iZ (u (n - 1)))]) X (K_ofOneNumber8_m S tl (u (n - 1)) (hW.2 (n - 1) (by omega)).1) cb_K_97 K_ofOneNumber_st rfl ⟨Nat.le_of_ble_eq_true rfl, Nat.le_of_ble_eq_true rfl⟩ (Nat.le_of_ble_eq_true rfl) ⟨Nat.le_of_ble_eq_true rfl, Nat.le_of_ble_eq_true rfl⟩ (K_oneNumber_d.d 29 rfl) (fun v h' q => ?_)
    obtain ⟨rfl, rfl⟩ := q
    refine AW.run X K_oneNumber_d 30 2 rfl ?_
    rw [show (iZ (zfl (u (n - 1)))).toInt64 = lZ (zfl (u (n - 1))) from iZ_l (by exact (zI_fl (hW.2 (n - 1) (by omega)).1).1)]
    refine AW.callV (As := [.int (nI 1), .long (lZ (zfl (u (n - 1)))), .int (bI (false))]) X (K_give_m S tl n 1 u t hW hK (zfl (u (n - 1))) false (by omega) (zL_fl (hW.2 (n - 1) (by omega)).1).1) cb_K_80 rfl rfl K_give_im K_give_se rfl ⟨Nat.le_of_ble_eq_true rfl, Nat.le_of_ble_eq_true rfl⟩ (Nat.le_of_ble_eq_true rfl) ⟨Nat.le_of_ble_eq_true rfl, Nat.le_of_ble_eq_true rfl⟩ (K_oneNumber_d.d 32 rfl) (fun v h' q => ?_)
    obtain ⟨rfl, q⟩ := q
    exact AW.iret X (K_oneNumber_d.d 33 rfl) (Nat.le_of_ble_eq_true rfl) (Nat.le_of_ble_eq_true rfl) (kp_eq (by rw [pS_8]; unfold p1; rw [if_neg (by omega), if_neg (by rw [(bI_0 _).mp q15]; decide), if_neg Bool.false_ne_true]) ⟨rfl, q⟩)
  · refine AW.run X K_oneNumber_d 16 1 rfl ?_
    exact AW.iret X (K_oneNumber_d.d 17 rfl) (Nat.le_of_ble_eq_true rfl) (Nat.le_of_ble_eq_true rfl) (kp_e (c := 10) (by rw [pS_8]; unfold p1; rw [if_neg (by omega), if_pos (Bool.of_not_eq_false (fun z => q15 ((bI_0 _).mpr z)))]; rfl) (by decide) rfl)

set_option maxHeartbeats 4000000 in
set_option maxRecDepth 100000 in
theorem K_oneNumber9_m {l : Launch} {G : ax_G} (S : x_S) (tl : List va_E) (n : Nat) (u : Nat → Int) (t : Nat → Bool) (hW : WS n u t) (hK : KS S n u t) (hn : 1 ≤ n) (num : Int) :
    AM l VV G K_oneNumber_y K_oneNumber_c 3 (some .int) 3 0 0 [.ref 150, .ref 9] (x_hC S tl) (fun v h' => kp S tl (pS 9 num n u t) v h') := by
  refine AM.of (pl := pl_K) (by decide) v_good fl_K_ok kl_K_ok nofun (Nat.le_of_ble_eq_true rfl) ?_
  intro p e s m args below meth c X
  refine AW.run X K_oneNumber_d 0 6 rfl ?_
  refine AW.cl12 (j := n - 1) X (hK.i (k := 1) (by omega)) (by have := hW.1; omega) (K_oneNumber_d.d 6 rfl) ?_
  rw [(hK.2 (n - 1) (by omega)).1]
  refine AW.run X K_oneNumber_d 7 7 rfl ?_
  refine AW.cl13 (j := n - 1) X (hK.i (k := 1) (by omega)) (by have := hW.1; omega) (K_oneNumber_d.d 14 rfl) ?_
  rw [(hK.2 (n - 1) (by omega)).2]
  refine AW.if_eq X (K_oneNumber_d.d 15 rfl) (fun q15 => ?_) (fun q15 => ?_)
  · refine AW.run X K_oneNumber_d 18 1 rfl ?_
    refine AW.gets X gs_K_94.1 gs_K_94.2 (K_oneNumber_d.d 19 rfl) ?_
    refine AW.acmp_ne X (some 9) (some 13) (Or.inl (by decide)) (Or.inl (by decide)) (K_oneNumber_d.d 20 rfl) (fun q => ?_) (fun q => absurd q (by decide))
    refine AW.run X K_oneNumber_d 25 4 rfl ?_
    refine AW.callS (As := [.ref 9, .int (iZ (u (n - 1)))]) X (K_ofOneNumber9_m S tl (u (n - 1)) (hW.2 (n - 1) (by omega)).1) cb_K_97 K_ofOneNumber_st rfl ⟨Nat.le_of_ble_eq_true rfl, Nat.le_of_ble_eq_true rfl⟩ (Nat.le_of_ble_eq_true rfl) ⟨Nat.le_of_ble_eq_true rfl, Nat.le_of_ble_eq_true rfl⟩ (K_oneNumber_d.d 29 rfl) (fun v h' q => ?_)
    obtain ⟨rfl, rfl⟩ := q
    refine AW.run X K_oneNumber_d 30 2 rfl ?_
    rw [show (iZ (zfl (u (n - 1) + 32768))).toInt64 = lZ (zfl (u (n - 1) + 32768)) from iZ_l (by exact zI_f3 (hW.2 (n - 1) (by omega)).1)]
    refine AW.callV (As := [.int (nI 1), .long (lZ (zfl (u (n - 1) + 32768))), .int (bI (false))]) X (K_give_m S tl n 1 u t hW hK (zfl (u (n - 1) + 32768)) false (by omega) (zL_f3 (hW.2 (n - 1) (by omega)).1)) cb_K_80 rfl rfl K_give_im K_give_se rfl ⟨Nat.le_of_ble_eq_true rfl, Nat.le_of_ble_eq_true rfl⟩ (Nat.le_of_ble_eq_true rfl) ⟨Nat.le_of_ble_eq_true rfl, Nat.le_of_ble_eq_true rfl⟩ (K_oneNumber_d.d 32 rfl) (fun v h' q => ?_)
    obtain ⟨rfl, q⟩ := q
    exact AW.iret X (K_oneNumber_d.d 33 rfl) (Nat.le_of_ble_eq_true rfl) (Nat.le_of_ble_eq_true rfl) (kp_eq (by rw [pS_9]; unfold p1; rw [if_neg (by omega), if_neg (by rw [(bI_0 _).mp q15]; decide), if_neg Bool.false_ne_true]) ⟨rfl, q⟩)
  · refine AW.run X K_oneNumber_d 16 1 rfl ?_
    exact AW.iret X (K_oneNumber_d.d 17 rfl) (Nat.le_of_ble_eq_true rfl) (Nat.le_of_ble_eq_true rfl) (kp_e (c := 10) (by rw [pS_9]; unfold p1; rw [if_neg (by omega), if_pos (Bool.of_not_eq_false (fun z => q15 ((bI_0 _).mpr z)))]; rfl) (by decide) rfl)

set_option maxHeartbeats 4000000 in
set_option maxRecDepth 100000 in
theorem K_oneNumber10_m {l : Launch} {G : ax_G} (S : x_S) (tl : List va_E) (n : Nat) (u : Nat → Int) (t : Nat → Bool) (hW : WS n u t) (hK : KS S n u t) (hn : 1 ≤ n) (num : Int) :
    AM l VV G K_oneNumber_y K_oneNumber_c 3 (some .int) 3 0 0 [.ref 150, .ref 10] (x_hC S tl) (fun v h' => kp S tl (pS 10 num n u t) v h') := by
  refine AM.of (pl := pl_K) (by decide) v_good fl_K_ok kl_K_ok nofun (Nat.le_of_ble_eq_true rfl) ?_
  intro p e s m args below meth c X
  refine AW.run X K_oneNumber_d 0 6 rfl ?_
  refine AW.cl12 (j := n - 1) X (hK.i (k := 1) (by omega)) (by have := hW.1; omega) (K_oneNumber_d.d 6 rfl) ?_
  rw [(hK.2 (n - 1) (by omega)).1]
  refine AW.run X K_oneNumber_d 7 7 rfl ?_
  refine AW.cl13 (j := n - 1) X (hK.i (k := 1) (by omega)) (by have := hW.1; omega) (K_oneNumber_d.d 14 rfl) ?_
  rw [(hK.2 (n - 1) (by omega)).2]
  refine AW.if_eq X (K_oneNumber_d.d 15 rfl) (fun q15 => ?_) (fun q15 => ?_)
  · refine AW.run X K_oneNumber_d 18 1 rfl ?_
    refine AW.gets X gs_K_94.1 gs_K_94.2 (K_oneNumber_d.d 19 rfl) ?_
    refine AW.acmp_ne X (some 10) (some 13) (Or.inl (by decide)) (Or.inl (by decide)) (K_oneNumber_d.d 20 rfl) (fun q => ?_) (fun q => absurd q (by decide))
    refine AW.run X K_oneNumber_d 25 4 rfl ?_
    refine AW.callS (As := [.ref 10, .int (iZ (u (n - 1)))]) X (K_ofOneNumber10_m S tl (u (n - 1)) (hW.2 (n - 1) (by omega)).1) cb_K_97 K_ofOneNumber_st rfl ⟨Nat.le_of_ble_eq_true rfl, Nat.le_of_ble_eq_true rfl⟩ (Nat.le_of_ble_eq_true rfl) ⟨Nat.le_of_ble_eq_true rfl, Nat.le_of_ble_eq_true rfl⟩ (K_oneNumber_d.d 29 rfl) (fun v h' q => ?_)
    obtain ⟨rfl, rfl⟩ := q
    refine AW.run X K_oneNumber_d 30 2 rfl ?_
    rw [show (iZ (ztr (u (n - 1)))).toInt64 = lZ (ztr (u (n - 1))) from iZ_l (by exact zI_tr (hW.2 (n - 1) (by omega)).1)]
    refine AW.callV (As := [.int (nI 1), .long (lZ (ztr (u (n - 1)))), .int (bI (false))]) X (K_give_m S tl n 1 u t hW hK (ztr (u (n - 1))) false (by omega) (zL_tr (hW.2 (n - 1) (by omega)).1)) cb_K_80 rfl rfl K_give_im K_give_se rfl ⟨Nat.le_of_ble_eq_true rfl, Nat.le_of_ble_eq_true rfl⟩ (Nat.le_of_ble_eq_true rfl) ⟨Nat.le_of_ble_eq_true rfl, Nat.le_of_ble_eq_true rfl⟩ (K_oneNumber_d.d 32 rfl) (fun v h' q => ?_)
    obtain ⟨rfl, q⟩ := q
    exact AW.iret X (K_oneNumber_d.d 33 rfl) (Nat.le_of_ble_eq_true rfl) (Nat.le_of_ble_eq_true rfl) (kp_eq (by rw [pS_10]; unfold p1; rw [if_neg (by omega), if_neg (by rw [(bI_0 _).mp q15]; decide), if_neg Bool.false_ne_true]) ⟨rfl, q⟩)
  · refine AW.run X K_oneNumber_d 16 1 rfl ?_
    exact AW.iret X (K_oneNumber_d.d 17 rfl) (Nat.le_of_ble_eq_true rfl) (Nat.le_of_ble_eq_true rfl) (kp_e (c := 10) (by rw [pS_10]; unfold p1; rw [if_neg (by omega), if_pos (Bool.of_not_eq_false (fun z => q15 ((bI_0 _).mpr z)))]; rfl) (by decide) rfl)

set_option maxHeartbeats 4000000 in
set_option maxRecDepth 100000 in
theorem K_oneNumber11_m {l : Launch} {G : ax_G} (S : x_S) (tl : List va_E) (n : Nat) (u : Nat → Int) (t : Nat → Bool) (hW : WS n u t) (hK : KS S n u t) (hn : 1 ≤ n) (num : Int) :
    AM l VV G K_oneNumber_y K_oneNumber_c 3 (some .int) 3 0 0 [.ref 150, .ref 11] (x_hC S tl) (fun v h' => kp S tl (pS 11 num n u t) v h') := by
  refine AM.of (pl := pl_K) (by decide) v_good fl_K_ok kl_K_ok nofun (Nat.le_of_ble_eq_true rfl) ?_
  intro p e s m args below meth c X
  refine AW.run X K_oneNumber_d 0 6 rfl ?_
  refine AW.cl12 (j := n - 1) X (hK.i (k := 1) (by omega)) (by have := hW.1; omega) (K_oneNumber_d.d 6 rfl) ?_
  rw [(hK.2 (n - 1) (by omega)).1]
  refine AW.run X K_oneNumber_d 7 7 rfl ?_
  refine AW.cl13 (j := n - 1) X (hK.i (k := 1) (by omega)) (by have := hW.1; omega) (K_oneNumber_d.d 14 rfl) ?_
  rw [(hK.2 (n - 1) (by omega)).2]
  refine AW.if_eq X (K_oneNumber_d.d 15 rfl) (fun q15 => ?_) (fun q15 => ?_)
  · refine AW.run X K_oneNumber_d 18 1 rfl ?_
    refine AW.gets X gs_K_94.1 gs_K_94.2 (K_oneNumber_d.d 19 rfl) ?_
    refine AW.acmp_ne X (some 11) (some 13) (Or.inl (by decide)) (Or.inl (by decide)) (K_oneNumber_d.d 20 rfl) (fun q => ?_) (fun q => absurd q (by decide))
    refine AW.run X K_oneNumber_d 25 4 rfl ?_
    refine AW.callS (As := [.ref 11, .int (iZ (u (n - 1)))]) X (K_ofOneNumber11_m S tl (u (n - 1)) (hW.2 (n - 1) (by omega)).1) cb_K_97 K_ofOneNumber_st rfl ⟨Nat.le_of_ble_eq_true rfl, Nat.le_of_ble_eq_true rfl⟩ (Nat.le_of_ble_eq_true rfl) ⟨Nat.le_of_ble_eq_true rfl, Nat.le_of_ble_eq_true rfl⟩ (K_oneNumber_d.d 29 rfl) (fun v h' q => ?_)
    obtain ⟨rfl, rfl⟩ := q
    refine AW.run X K_oneNumber_d 30 2 rfl ?_
    rw [show (iZ (ztr (u (n - 1)))).toInt64 = lZ (ztr (u (n - 1))) from iZ_l (by exact zI_tr (hW.2 (n - 1) (by omega)).1)]
    refine AW.callV (As := [.int (nI 1), .long (lZ (ztr (u (n - 1)))), .int (bI (false))]) X (K_give_m S tl n 1 u t hW hK (ztr (u (n - 1))) false (by omega) (zL_tr (hW.2 (n - 1) (by omega)).1)) cb_K_80 rfl rfl K_give_im K_give_se rfl ⟨Nat.le_of_ble_eq_true rfl, Nat.le_of_ble_eq_true rfl⟩ (Nat.le_of_ble_eq_true rfl) ⟨Nat.le_of_ble_eq_true rfl, Nat.le_of_ble_eq_true rfl⟩ (K_oneNumber_d.d 32 rfl) (fun v h' q => ?_)
    obtain ⟨rfl, q⟩ := q
    exact AW.iret X (K_oneNumber_d.d 33 rfl) (Nat.le_of_ble_eq_true rfl) (Nat.le_of_ble_eq_true rfl) (kp_eq (by rw [pS_11]; unfold p1; rw [if_neg (by omega), if_neg (by rw [(bI_0 _).mp q15]; decide), if_neg Bool.false_ne_true]) ⟨rfl, q⟩)
  · refine AW.run X K_oneNumber_d 16 1 rfl ?_
    exact AW.iret X (K_oneNumber_d.d 17 rfl) (Nat.le_of_ble_eq_true rfl) (Nat.le_of_ble_eq_true rfl) (kp_e (c := 10) (by rw [pS_11]; unfold p1; rw [if_neg (by omega), if_pos (Bool.of_not_eq_false (fun z => q15 ((bI_0 _).mpr z)))]; rfl) (by decide) rfl)

set_option maxHeartbeats 4000000 in
set_option maxRecDepth 100000 in
theorem K_oneNumber12_m {l : Launch} {G : ax_G} (S : x_S) (tl : List va_E) (n : Nat) (u : Nat → Int) (t : Nat → Bool) (hW : WS n u t) (hK : KS S n u t) (hn : 1 ≤ n) (num : Int) :
    AM l VV G K_oneNumber_y K_oneNumber_c 3 (some .int) 3 0 0 [.ref 150, .ref 12] (x_hC S tl) (fun v h' => kp S tl (pS 12 num n u t) v h') := by
  refine AM.of (pl := pl_K) (by decide) v_good fl_K_ok kl_K_ok nofun (Nat.le_of_ble_eq_true rfl) ?_
  intro p e s m args below meth c X
  refine AW.run X K_oneNumber_d 0 6 rfl ?_
  refine AW.cl12 (j := n - 1) X (hK.i (k := 1) (by omega)) (by have := hW.1; omega) (K_oneNumber_d.d 6 rfl) ?_
  rw [(hK.2 (n - 1) (by omega)).1]
  refine AW.run X K_oneNumber_d 7 7 rfl ?_
  refine AW.cl13 (j := n - 1) X (hK.i (k := 1) (by omega)) (by have := hW.1; omega) (K_oneNumber_d.d 14 rfl) ?_
  rw [(hK.2 (n - 1) (by omega)).2]
  refine AW.if_eq X (K_oneNumber_d.d 15 rfl) (fun q15 => ?_) (fun q15 => ?_)
  · refine AW.run X K_oneNumber_d 18 1 rfl ?_
    refine AW.gets X gs_K_94.1 gs_K_94.2 (K_oneNumber_d.d 19 rfl) ?_
    refine AW.acmp_ne X (some 12) (some 13) (Or.inl (by decide)) (Or.inl (by decide)) (K_oneNumber_d.d 20 rfl) (fun q => ?_) (fun q => absurd q (by decide))
    refine AW.run X K_oneNumber_d 25 4 rfl ?_
    refine AW.callS (As := [.ref 12, .int (iZ (u (n - 1)))]) X (K_ofOneNumber12_m S tl (u (n - 1)) (hW.2 (n - 1) (by omega)).1) cb_K_97 K_ofOneNumber_st rfl ⟨Nat.le_of_ble_eq_true rfl, Nat.le_of_ble_eq_true rfl⟩ (Nat.le_of_ble_eq_true rfl) ⟨Nat.le_of_ble_eq_true rfl, Nat.le_of_ble_eq_true rfl⟩ (K_oneNumber_d.d 29 rfl) (fun v h' q => ?_)
    obtain ⟨rfl, rfl⟩ := q
    refine AW.run X K_oneNumber_d 30 2 rfl ?_
    rw [show (iZ (u (n - 1))).toInt64 = lZ (u (n - 1)) from iZ_l (by exact zN_I (hW.2 (n - 1) (by omega)).1)]
    refine AW.callV (As := [.int (nI 1), .long (lZ (u (n - 1))), .int (bI (false))]) X (K_give_m S tl n 1 u t hW hK (u (n - 1)) false (by omega) (zN_L (hW.2 (n - 1) (by omega)).1)) cb_K_80 rfl rfl K_give_im K_give_se rfl ⟨Nat.le_of_ble_eq_true rfl, Nat.le_of_ble_eq_true rfl⟩ (Nat.le_of_ble_eq_true rfl) ⟨Nat.le_of_ble_eq_true rfl, Nat.le_of_ble_eq_true rfl⟩ (K_oneNumber_d.d 32 rfl) (fun v h' q => ?_)
    obtain ⟨rfl, q⟩ := q
    exact AW.iret X (K_oneNumber_d.d 33 rfl) (Nat.le_of_ble_eq_true rfl) (Nat.le_of_ble_eq_true rfl) (kp_eq (by rw [pS_12]; unfold p1; rw [if_neg (by omega), if_neg (by rw [(bI_0 _).mp q15]; decide), if_neg Bool.false_ne_true]) ⟨rfl, q⟩)
  · refine AW.run X K_oneNumber_d 16 1 rfl ?_
    exact AW.iret X (K_oneNumber_d.d 17 rfl) (Nat.le_of_ble_eq_true rfl) (Nat.le_of_ble_eq_true rfl) (kp_e (c := 10) (by rw [pS_12]; unfold p1; rw [if_neg (by omega), if_pos (Bool.of_not_eq_false (fun z => q15 ((bI_0 _).mpr z)))]; rfl) (by decide) rfl)

set_option maxHeartbeats 4000000 in
set_option maxRecDepth 100000 in
theorem K_oneNumber13_m {l : Launch} {G : ax_G} (S : x_S) (tl : List va_E) (n : Nat) (u : Nat → Int) (t : Nat → Bool) (hW : WS n u t) (hK : KS S n u t) (hn : 1 ≤ n) (num : Int) :
    AM l VV G K_oneNumber_y K_oneNumber_c 3 (some .int) 3 0 0 [.ref 150, .ref 13] (x_hC S tl) (fun v h' => kp S tl (pS 13 num n u t) v h') := by
  refine AM.of (pl := pl_K) (by decide) v_good fl_K_ok kl_K_ok nofun (Nat.le_of_ble_eq_true rfl) ?_
  intro p e s m args below meth c X
  refine AW.run X K_oneNumber_d 0 6 rfl ?_
  refine AW.cl12 (j := n - 1) X (hK.i (k := 1) (by omega)) (by have := hW.1; omega) (K_oneNumber_d.d 6 rfl) ?_
  rw [(hK.2 (n - 1) (by omega)).1]
  refine AW.run X K_oneNumber_d 7 7 rfl ?_
  refine AW.cl13 (j := n - 1) X (hK.i (k := 1) (by omega)) (by have := hW.1; omega) (K_oneNumber_d.d 14 rfl) ?_
  rw [(hK.2 (n - 1) (by omega)).2]
  refine AW.if_eq X (K_oneNumber_d.d 15 rfl) (fun q15 => ?_) (fun q15 => ?_)
  · refine AW.run X K_oneNumber_d 18 1 rfl ?_
    refine AW.gets X gs_K_94.1 gs_K_94.2 (K_oneNumber_d.d 19 rfl) ?_
    refine AW.acmp_ne X (some 13) (some 13) (Or.inl (by decide)) (Or.inl (by decide)) (K_oneNumber_d.d 20 rfl) (fun q => absurd rfl q) (fun q => ?_)
    refine AW.run X K_oneNumber_d 21 1 rfl ?_
    refine AW.if_ge X (K_oneNumber_d.d 22 rfl) (fun q22 => ?_) (fun q22 => ?_)
    · have h0 : 0 ≤ u (n - 1) := (iZ_le ⟨by decide, by decide⟩ (zN_I (hW.2 (n - 1) (by omega)).1)).mp q22
      refine AW.run X K_oneNumber_d 25 4 rfl ?_
      refine AW.callS (As := [.ref 13, .int (iZ (u (n - 1)))]) X (K_ofOneNumber13_m S tl (u (n - 1)) (hW.2 (n - 1) (by omega)).1 h0) cb_K_97 K_ofOneNumber_st rfl ⟨Nat.le_of_ble_eq_true rfl, Nat.le_of_ble_eq_true rfl⟩ (Nat.le_of_ble_eq_true rfl) ⟨Nat.le_of_ble_eq_true rfl, Nat.le_of_ble_eq_true rfl⟩ (K_oneNumber_d.d 29 rfl) (fun v h' q => ?_)
      obtain ⟨rfl, rfl⟩ := q
      refine AW.run X K_oneNumber_d 30 2 rfl ?_
      rw [show (iZ (zroot (u (n - 1)))).toInt64 = lZ (zroot (u (n - 1))) from iZ_l (by exact zI_root (hW.2 (n - 1) (by omega)).1 h0)]
      refine AW.callV (As := [.int (nI 1), .long (lZ (zroot (u (n - 1)))), .int (bI (false))]) X (K_give_m S tl n 1 u t hW hK (zroot (u (n - 1))) false (by omega) (zL_root (hW.2 (n - 1) (by omega)).1 h0)) cb_K_80 rfl rfl K_give_im K_give_se rfl ⟨Nat.le_of_ble_eq_true rfl, Nat.le_of_ble_eq_true rfl⟩ (Nat.le_of_ble_eq_true rfl) ⟨Nat.le_of_ble_eq_true rfl, Nat.le_of_ble_eq_true rfl⟩ (K_oneNumber_d.d 32 rfl) (fun v h' q => ?_)
      obtain ⟨rfl, q⟩ := q
      exact AW.iret X (K_oneNumber_d.d 33 rfl) (Nat.le_of_ble_eq_true rfl) (Nat.le_of_ble_eq_true rfl) (kp_eq (by rw [pS_13]; unfold p1; rw [if_neg (by omega), if_neg (by rw [(bI_0 _).mp q15]; decide), if_neg (by rw [decide_eq_true_eq]; omega)]) ⟨rfl, q⟩)
    · refine AW.run X K_oneNumber_d 23 1 rfl ?_
      exact AW.iret X (K_oneNumber_d.d 24 rfl) (Nat.le_of_ble_eq_true rfl) (Nat.le_of_ble_eq_true rfl) (kp_e (c := 12) (by rw [pS_13]; unfold p1; rw [if_neg (by omega), if_neg (by rw [(bI_0 _).mp q15]; decide), if_pos (by rw [decide_eq_true_eq]; have := mt (iZ_le (a := 0) ⟨by decide, by decide⟩ (zN_I (hW.2 (n - 1) (by omega)).1)).mpr q22; omega)]; rfl) (by decide) rfl)
  · refine AW.run X K_oneNumber_d 16 1 rfl ?_
    exact AW.iret X (K_oneNumber_d.d 17 rfl) (Nat.le_of_ble_eq_true rfl) (Nat.le_of_ble_eq_true rfl) (kp_e (c := 10) (by rw [pS_13]; unfold p1; rw [if_neg (by omega), if_pos (Bool.of_not_eq_false (fun z => q15 ((bI_0 _).mpr z)))]; rfl) (by decide) rfl)

set_option maxHeartbeats 4000000 in
set_option maxRecDepth 100000 in
theorem K_ofTwoNumbers14_m {l : Launch} {G : ax_G} (S : x_S) (tl : List va_E) (a b : Int) (ha : zN a) (hb : zN b) :
    AM l VV G K_ofTwoNumbers_y K_ofTwoNumbers_c 3 (some .long) 2 0 0 [.ref 14, .int (iZ a), .int (iZ b)] (x_hC S tl) (fun v h' => v = some (.long (lZ (a + b))) ∧ h' = x_hC S tl) := by
  refine AM.of (pl := pl_K) (by decide) v_good fl_K_ok kl_K_ok nofun (Nat.le_of_ble_eq_true rfl) ?_
  intro p e s m args below meth c X
  refine AW.gets X gs_K_100.1 gs_K_100.2 (K_ofTwoNumbers_d.d 0 rfl) ?_
  refine AW.run X K_ofTwoNumbers_d 1 1 rfl ?_
  refine AW.callU (rc := ("NumberFunctions$Word", Cl_O, 4)) (As := []) X (JEnum_ordinal_m 14 (by decide) (x_w S tl)) cu_K_105_O rfl rfl rfl ⟨Nat.le_of_ble_eq_true rfl, Nat.le_of_ble_eq_true rfl⟩ (Nat.le_of_ble_eq_true rfl) ⟨Nat.le_of_ble_eq_true rfl, Nat.le_of_ble_eq_true rfl⟩ (K_ofTwoNumbers_d.d 2 rfl) (fun v h' q => ?_)
  obtain ⟨rfl, rfl⟩ := q
  refine AW.tiald (j := 14) X (List.mem_of_getElem? (i := 1) rfl) rfl (by decide) (by decide) (K_ofTwoNumbers_d.d 3 rfl) ?_
  refine AW.tableIn X (K_ofTwoNumbers_d.d 4 rfl) (by decide) (by decide) (off := 28) (by decide) ?_
  refine AW.run X K_ofTwoNumbers_d 5 5 rfl ?_
  exact AW.lret X (K_ofTwoNumbers_d.d 10 rfl) (Nat.le_of_ble_eq_true rfl) (Nat.le_of_ble_eq_true rfl) ⟨by rw [iZ_l (zN_I ha), iZ_l (zN_I hb), lZ_add], rfl⟩

set_option maxHeartbeats 4000000 in
set_option maxRecDepth 100000 in
theorem K_ofTwoNumbers15_m {l : Launch} {G : ax_G} (S : x_S) (tl : List va_E) (a b : Int) (ha : zN a) (hb : zN b) :
    AM l VV G K_ofTwoNumbers_y K_ofTwoNumbers_c 3 (some .long) 2 0 0 [.ref 15, .int (iZ a), .int (iZ b)] (x_hC S tl) (fun v h' => v = some (.long (lZ (a - b))) ∧ h' = x_hC S tl) := by
  refine AM.of (pl := pl_K) (by decide) v_good fl_K_ok kl_K_ok nofun (Nat.le_of_ble_eq_true rfl) ?_
  intro p e s m args below meth c X
  refine AW.gets X gs_K_100.1 gs_K_100.2 (K_ofTwoNumbers_d.d 0 rfl) ?_
  refine AW.run X K_ofTwoNumbers_d 1 1 rfl ?_
  refine AW.callU (rc := ("NumberFunctions$Word", Cl_O, 4)) (As := []) X (JEnum_ordinal_m 15 (by decide) (x_w S tl)) cu_K_105_O rfl rfl rfl ⟨Nat.le_of_ble_eq_true rfl, Nat.le_of_ble_eq_true rfl⟩ (Nat.le_of_ble_eq_true rfl) ⟨Nat.le_of_ble_eq_true rfl, Nat.le_of_ble_eq_true rfl⟩ (K_ofTwoNumbers_d.d 2 rfl) (fun v h' q => ?_)
  obtain ⟨rfl, rfl⟩ := q
  refine AW.tiald (j := 15) X (List.mem_of_getElem? (i := 1) rfl) rfl (by decide) (by decide) (K_ofTwoNumbers_d.d 3 rfl) ?_
  refine AW.tableIn X (K_ofTwoNumbers_d.d 4 rfl) (by decide) (by decide) (off := 34) (by decide) ?_
  refine AW.run X K_ofTwoNumbers_d 11 5 rfl ?_
  exact AW.lret X (K_ofTwoNumbers_d.d 16 rfl) (Nat.le_of_ble_eq_true rfl) (Nat.le_of_ble_eq_true rfl) ⟨by rw [iZ_l (zN_I ha), iZ_l (zN_I hb), lZ_sub], rfl⟩

set_option maxHeartbeats 4000000 in
set_option maxRecDepth 100000 in
theorem K_ofTwoNumbers16_m {l : Launch} {G : ax_G} (S : x_S) (tl : List va_E) (a b : Int) (ha : zN a) (hb : zN b) :
    AM l VV G K_ofTwoNumbers_y K_ofTwoNumbers_c 3 (some .long) 2 0 0 [.ref 16, .int (iZ a), .int (iZ b)] (x_hC S tl) (fun v h' => v = some (.long (lZ (ztimes (a) (b)))) ∧ h' = x_hC S tl) := by
  refine AM.of (pl := pl_K) (by decide) v_good fl_K_ok kl_K_ok nofun (Nat.le_of_ble_eq_true rfl) ?_
  intro p e s m args below meth c X
  refine AW.gets X gs_K_100.1 gs_K_100.2 (K_ofTwoNumbers_d.d 0 rfl) ?_
  refine AW.run X K_ofTwoNumbers_d 1 1 rfl ?_
  refine AW.callU (rc := ("NumberFunctions$Word", Cl_O, 4)) (As := []) X (JEnum_ordinal_m 16 (by decide) (x_w S tl)) cu_K_105_O rfl rfl rfl ⟨Nat.le_of_ble_eq_true rfl, Nat.le_of_ble_eq_true rfl⟩ (Nat.le_of_ble_eq_true rfl) ⟨Nat.le_of_ble_eq_true rfl, Nat.le_of_ble_eq_true rfl⟩ (K_ofTwoNumbers_d.d 2 rfl) (fun v h' q => ?_)
  obtain ⟨rfl, rfl⟩ := q
  refine AW.tiald (j := 16) X (List.mem_of_getElem? (i := 1) rfl) rfl (by decide) (by decide) (K_ofTwoNumbers_d.d 3 rfl) ?_
  refine AW.tableIn X (K_ofTwoNumbers_d.d 4 rfl) (by decide) (by decide) (off := 40) (by decide) ?_
  refine AW.run X K_ofTwoNumbers_d 17 2 rfl ?_
  refine AW.callS (As := [.int (iZ a), .int (iZ b)]) X (B_times_m a b ha hb) cb_K_131 B_times_st rfl ⟨Nat.le_of_ble_eq_true rfl, Nat.le_of_ble_eq_true rfl⟩ (Nat.le_of_ble_eq_true rfl) ⟨Nat.le_of_ble_eq_true rfl, Nat.le_of_ble_eq_true rfl⟩ (K_ofTwoNumbers_d.d 19 rfl) (fun v h' q => ?_)
  obtain ⟨rfl, rfl⟩ := q
  refine AW.run X K_ofTwoNumbers_d 20 1 rfl ?_
  exact AW.lret X (K_ofTwoNumbers_d.d 21 rfl) (Nat.le_of_ble_eq_true rfl) (Nat.le_of_ble_eq_true rfl) ⟨by rw [iZ_l (z := ztimes a b) (zN_I (zk_N _))], rfl⟩

set_option maxHeartbeats 4000000 in
set_option maxRecDepth 100000 in
theorem K_ofTwoNumbers17_m {l : Launch} {G : ax_G} (S : x_S) (tl : List va_E) (a b : Int) (ha : zN a) (hb : zN b) (h0 : b ≠ 0) :
    AM l VV G K_ofTwoNumbers_y K_ofTwoNumbers_c 3 (some .long) 2 0 0 [.ref 17, .int (iZ a), .int (iZ b)] (x_hC S tl) (fun v h' => v = some (.long (lZ (zover (a) (b)))) ∧ h' = x_hC S tl) := by
  refine AM.of (pl := pl_K) (by decide) v_good fl_K_ok kl_K_ok nofun (Nat.le_of_ble_eq_true rfl) ?_
  intro p e s m args below meth c X
  refine AW.gets X gs_K_100.1 gs_K_100.2 (K_ofTwoNumbers_d.d 0 rfl) ?_
  refine AW.run X K_ofTwoNumbers_d 1 1 rfl ?_
  refine AW.callU (rc := ("NumberFunctions$Word", Cl_O, 4)) (As := []) X (JEnum_ordinal_m 17 (by decide) (x_w S tl)) cu_K_105_O rfl rfl rfl ⟨Nat.le_of_ble_eq_true rfl, Nat.le_of_ble_eq_true rfl⟩ (Nat.le_of_ble_eq_true rfl) ⟨Nat.le_of_ble_eq_true rfl, Nat.le_of_ble_eq_true rfl⟩ (K_ofTwoNumbers_d.d 2 rfl) (fun v h' q => ?_)
  obtain ⟨rfl, rfl⟩ := q
  refine AW.tiald (j := 17) X (List.mem_of_getElem? (i := 1) rfl) rfl (by decide) (by decide) (K_ofTwoNumbers_d.d 3 rfl) ?_
  refine AW.tableOut X (K_ofTwoNumbers_d.d 4 rfl) (by decide) ?_
  refine AW.run X K_ofTwoNumbers_d 22 2 rfl ?_
  refine AW.callS (As := [.int (iZ a), .int (iZ b)]) X (B_over_m a b ha hb h0) cb_K_135 B_over_st rfl ⟨Nat.le_of_ble_eq_true rfl, Nat.le_of_ble_eq_true rfl⟩ (Nat.le_of_ble_eq_true rfl) ⟨Nat.le_of_ble_eq_true rfl, Nat.le_of_ble_eq_true rfl⟩ (K_ofTwoNumbers_d.d 24 rfl) (fun v h' q => ?_)
  obtain ⟨rfl, rfl⟩ := q
  refine AW.run X K_ofTwoNumbers_d 25 1 rfl ?_
  exact AW.lret X (K_ofTwoNumbers_d.d 26 rfl) (Nat.le_of_ble_eq_true rfl) (Nat.le_of_ble_eq_true rfl) ⟨by rw [iZ_l (z := zover a b) (zN_I (zk_N _))], rfl⟩

set_option maxHeartbeats 4000000 in
set_option maxRecDepth 100000 in
theorem K_twoNumbers14_m {l : Launch} {G : ax_G} (S : x_S) (tl : List va_E) (n : Nat) (u : Nat → Int) (t : Nat → Bool) (hW : WS n u t) (hK : KS S n u t) (hn : 2 ≤ n) (num : Int) :
    AM l VV G K_twoNumbers_y K_twoNumbers_c 4 (some .int) 3 0 0 [.ref 150, .ref 14] (x_hC S tl) (fun v h' => kp S tl (pS 14 num n u t) v h') := by
  refine AM.of (pl := pl_K) (by decide) v_good fl_K_ok kl_K_ok nofun (Nat.le_of_ble_eq_true rfl) ?_
  intro p e s m args below meth c X
  refine AW.run X K_twoNumbers_d 0 6 rfl ?_
  refine AW.cl12 (j := n - 2) X (hK.i (k := 2) (by omega)) (by have := hW.1; omega) (K_twoNumbers_d.d 6 rfl) ?_
  rw [(hK.2 (n - 2) (by omega)).1]
  refine AW.run X K_twoNumbers_d 7 7 rfl ?_
  refine AW.cl12 (j := n - 1) X (hK.i (k := 1) (by omega)) (by have := hW.1; omega) (K_twoNumbers_d.d 14 rfl) ?_
  rw [(hK.2 (n - 1) (by omega)).1]
  refine AW.run X K_twoNumbers_d 15 7 rfl ?_
  refine AW.cl13 (j := n - 2) X (hK.i (k := 2) (by omega)) (by have := hW.1; omega) (K_twoNumbers_d.d 22 rfl) ?_
  rw [(hK.2 (n - 2) (by omega)).2]
  refine AW.if_ne X (K_twoNumbers_d.d 23 rfl) (fun q23 => ?_) (fun q23 => ?_)
  · refine AW.run X K_twoNumbers_d 32 1 rfl ?_
    exact AW.iret X (K_twoNumbers_d.d 33 rfl) (Nat.le_of_ble_eq_true rfl) (Nat.le_of_ble_eq_true rfl) (kp_e (c := 10) (by rw [pS_14]; unfold p2; rw [if_neg (by omega), if_pos (Or.inl (Bool.of_not_eq_false (fun z => q23 ((bI_0 _).mpr z))))]; rfl) (by decide) rfl)
  · refine AW.run X K_twoNumbers_d 24 6 rfl ?_
    refine AW.cl13 (j := n - 1) X (hK.i (k := 1) (by omega)) (by have := hW.1; omega) (K_twoNumbers_d.d 30 rfl) ?_
    rw [(hK.2 (n - 1) (by omega)).2]
    refine AW.if_eq X (K_twoNumbers_d.d 31 rfl) (fun q31 => ?_) (fun q31 => ?_)
    · refine AW.run X K_twoNumbers_d 34 1 rfl ?_
      refine AW.gets X gs_K_124.1 gs_K_124.2 (K_twoNumbers_d.d 35 rfl) ?_
      refine AW.acmp_ne X (some 14) (some 17) (Or.inl (by decide)) (Or.inl (by decide)) (K_twoNumbers_d.d 36 rfl) (fun q => ?_) (fun q => absurd q (by decide))
      refine AW.run X K_twoNumbers_d 41 5 rfl ?_
      refine AW.callS (As := [.ref 14, .int (iZ (u (n - 2))), .int (iZ (u (n - 1)))]) X (K_ofTwoNumbers14_m S tl (u (n - 2)) (u (n - 1)) (hW.2 (n - 2) (by omega)).1 (hW.2 (n - 1) (by omega)).1) cb_K_127 K_ofTwoNumbers_st rfl ⟨Nat.le_of_ble_eq_true rfl, Nat.le_of_ble_eq_true rfl⟩ (Nat.le_of_ble_eq_true rfl) ⟨Nat.le_of_ble_eq_true rfl, Nat.le_of_ble_eq_true rfl⟩ (K_twoNumbers_d.d 46 rfl) (fun v h' q => ?_)
      obtain ⟨rfl, rfl⟩ := q
      refine AW.run X K_twoNumbers_d 47 1 rfl ?_
      refine AW.callV (As := [.int (nI 2), .long (lZ (u (n - 2) + u (n - 1))), .int (bI (false))]) X (K_give_m S tl n 2 u t hW hK (u (n - 2) + u (n - 1)) false (by omega) (zL_add (hW.2 (n - 2) (by omega)).1 (hW.2 (n - 1) (by omega)).1)) cb_K_80 rfl rfl K_give_im K_give_se rfl ⟨Nat.le_of_ble_eq_true rfl, Nat.le_of_ble_eq_true rfl⟩ (Nat.le_of_ble_eq_true rfl) ⟨Nat.le_of_ble_eq_true rfl, Nat.le_of_ble_eq_true rfl⟩ (K_twoNumbers_d.d 48 rfl) (fun v h' q => ?_)
      obtain ⟨rfl, q⟩ := q
      exact AW.iret X (K_twoNumbers_d.d 49 rfl) (Nat.le_of_ble_eq_true rfl) (Nat.le_of_ble_eq_true rfl) (kp_eq (by rw [pS_14]; unfold p2; rw [if_neg (by omega), if_neg (fun z => z.elim (fun z => by rw [bI_f0 q23] at z; cases z) (fun z => by rw [(bI_0 _).mp q31] at z; cases z)), if_neg Bool.false_ne_true]) ⟨rfl, q⟩)
    · refine AW.run X K_twoNumbers_d 32 1 rfl ?_
      exact AW.iret X (K_twoNumbers_d.d 33 rfl) (Nat.le_of_ble_eq_true rfl) (Nat.le_of_ble_eq_true rfl) (kp_e (c := 10) (by rw [pS_14]; unfold p2; rw [if_neg (by omega), if_pos (Or.inr (Bool.of_not_eq_false (fun z => q31 ((bI_0 _).mpr z))))]; rfl) (by decide) rfl)

set_option maxHeartbeats 4000000 in
set_option maxRecDepth 100000 in
theorem K_twoNumbers15_m {l : Launch} {G : ax_G} (S : x_S) (tl : List va_E) (n : Nat) (u : Nat → Int) (t : Nat → Bool) (hW : WS n u t) (hK : KS S n u t) (hn : 2 ≤ n) (num : Int) :
    AM l VV G K_twoNumbers_y K_twoNumbers_c 4 (some .int) 3 0 0 [.ref 150, .ref 15] (x_hC S tl) (fun v h' => kp S tl (pS 15 num n u t) v h') := by
  refine AM.of (pl := pl_K) (by decide) v_good fl_K_ok kl_K_ok nofun (Nat.le_of_ble_eq_true rfl) ?_
  intro p e s m args below meth c X
  refine AW.run X K_twoNumbers_d 0 6 rfl ?_
  refine AW.cl12 (j := n - 2) X (hK.i (k := 2) (by omega)) (by have := hW.1; omega) (K_twoNumbers_d.d 6 rfl) ?_
  rw [(hK.2 (n - 2) (by omega)).1]
  refine AW.run X K_twoNumbers_d 7 7 rfl ?_
  refine AW.cl12 (j := n - 1) X (hK.i (k := 1) (by omega)) (by have := hW.1; omega) (K_twoNumbers_d.d 14 rfl) ?_
  rw [(hK.2 (n - 1) (by omega)).1]
  refine AW.run X K_twoNumbers_d 15 7 rfl ?_
  refine AW.cl13 (j := n - 2) X (hK.i (k := 2) (by omega)) (by have := hW.1; omega) (K_twoNumbers_d.d 22 rfl) ?_
  rw [(hK.2 (n - 2) (by omega)).2]
  refine AW.if_ne X (K_twoNumbers_d.d 23 rfl) (fun q23 => ?_) (fun q23 => ?_)
  · refine AW.run X K_twoNumbers_d 32 1 rfl ?_
    exact AW.iret X (K_twoNumbers_d.d 33 rfl) (Nat.le_of_ble_eq_true rfl) (Nat.le_of_ble_eq_true rfl) (kp_e (c := 10) (by rw [pS_15]; unfold p2; rw [if_neg (by omega), if_pos (Or.inl (Bool.of_not_eq_false (fun z => q23 ((bI_0 _).mpr z))))]; rfl) (by decide) rfl)
  · refine AW.run X K_twoNumbers_d 24 6 rfl ?_
    refine AW.cl13 (j := n - 1) X (hK.i (k := 1) (by omega)) (by have := hW.1; omega) (K_twoNumbers_d.d 30 rfl) ?_
    rw [(hK.2 (n - 1) (by omega)).2]
    refine AW.if_eq X (K_twoNumbers_d.d 31 rfl) (fun q31 => ?_) (fun q31 => ?_)
    · refine AW.run X K_twoNumbers_d 34 1 rfl ?_
      refine AW.gets X gs_K_124.1 gs_K_124.2 (K_twoNumbers_d.d 35 rfl) ?_
      refine AW.acmp_ne X (some 15) (some 17) (Or.inl (by decide)) (Or.inl (by decide)) (K_twoNumbers_d.d 36 rfl) (fun q => ?_) (fun q => absurd q (by decide))
      refine AW.run X K_twoNumbers_d 41 5 rfl ?_
      refine AW.callS (As := [.ref 15, .int (iZ (u (n - 2))), .int (iZ (u (n - 1)))]) X (K_ofTwoNumbers15_m S tl (u (n - 2)) (u (n - 1)) (hW.2 (n - 2) (by omega)).1 (hW.2 (n - 1) (by omega)).1) cb_K_127 K_ofTwoNumbers_st rfl ⟨Nat.le_of_ble_eq_true rfl, Nat.le_of_ble_eq_true rfl⟩ (Nat.le_of_ble_eq_true rfl) ⟨Nat.le_of_ble_eq_true rfl, Nat.le_of_ble_eq_true rfl⟩ (K_twoNumbers_d.d 46 rfl) (fun v h' q => ?_)
      obtain ⟨rfl, rfl⟩ := q
      refine AW.run X K_twoNumbers_d 47 1 rfl ?_
      refine AW.callV (As := [.int (nI 2), .long (lZ (u (n - 2) - u (n - 1))), .int (bI (false))]) X (K_give_m S tl n 2 u t hW hK (u (n - 2) - u (n - 1)) false (by omega) (zL_sub (hW.2 (n - 2) (by omega)).1 (hW.2 (n - 1) (by omega)).1)) cb_K_80 rfl rfl K_give_im K_give_se rfl ⟨Nat.le_of_ble_eq_true rfl, Nat.le_of_ble_eq_true rfl⟩ (Nat.le_of_ble_eq_true rfl) ⟨Nat.le_of_ble_eq_true rfl, Nat.le_of_ble_eq_true rfl⟩ (K_twoNumbers_d.d 48 rfl) (fun v h' q => ?_)
      obtain ⟨rfl, q⟩ := q
      exact AW.iret X (K_twoNumbers_d.d 49 rfl) (Nat.le_of_ble_eq_true rfl) (Nat.le_of_ble_eq_true rfl) (kp_eq (by rw [pS_15]; unfold p2; rw [if_neg (by omega), if_neg (fun z => z.elim (fun z => by rw [bI_f0 q23] at z; cases z) (fun z => by rw [(bI_0 _).mp q31] at z; cases z)), if_neg Bool.false_ne_true]) ⟨rfl, q⟩)
    · refine AW.run X K_twoNumbers_d 32 1 rfl ?_
      exact AW.iret X (K_twoNumbers_d.d 33 rfl) (Nat.le_of_ble_eq_true rfl) (Nat.le_of_ble_eq_true rfl) (kp_e (c := 10) (by rw [pS_15]; unfold p2; rw [if_neg (by omega), if_pos (Or.inr (Bool.of_not_eq_false (fun z => q31 ((bI_0 _).mpr z))))]; rfl) (by decide) rfl)

set_option maxHeartbeats 4000000 in
set_option maxRecDepth 100000 in
theorem K_twoNumbers16_m {l : Launch} {G : ax_G} (S : x_S) (tl : List va_E) (n : Nat) (u : Nat → Int) (t : Nat → Bool) (hW : WS n u t) (hK : KS S n u t) (hn : 2 ≤ n) (num : Int) :
    AM l VV G K_twoNumbers_y K_twoNumbers_c 4 (some .int) 3 0 0 [.ref 150, .ref 16] (x_hC S tl) (fun v h' => kp S tl (pS 16 num n u t) v h') := by
  refine AM.of (pl := pl_K) (by decide) v_good fl_K_ok kl_K_ok nofun (Nat.le_of_ble_eq_true rfl) ?_
  intro p e s m args below meth c X
  refine AW.run X K_twoNumbers_d 0 6 rfl ?_
  refine AW.cl12 (j := n - 2) X (hK.i (k := 2) (by omega)) (by have := hW.1; omega) (K_twoNumbers_d.d 6 rfl) ?_
  rw [(hK.2 (n - 2) (by omega)).1]
  refine AW.run X K_twoNumbers_d 7 7 rfl ?_
  refine AW.cl12 (j := n - 1) X (hK.i (k := 1) (by omega)) (by have := hW.1; omega) (K_twoNumbers_d.d 14 rfl) ?_
  rw [(hK.2 (n - 1) (by omega)).1]
  refine AW.run X K_twoNumbers_d 15 7 rfl ?_
  refine AW.cl13 (j := n - 2) X (hK.i (k := 2) (by omega)) (by have := hW.1; omega) (K_twoNumbers_d.d 22 rfl) ?_
  rw [(hK.2 (n - 2) (by omega)).2]
  refine AW.if_ne X (K_twoNumbers_d.d 23 rfl) (fun q23 => ?_) (fun q23 => ?_)
  · refine AW.run X K_twoNumbers_d 32 1 rfl ?_
    exact AW.iret X (K_twoNumbers_d.d 33 rfl) (Nat.le_of_ble_eq_true rfl) (Nat.le_of_ble_eq_true rfl) (kp_e (c := 10) (by rw [pS_16]; unfold p2; rw [if_neg (by omega), if_pos (Or.inl (Bool.of_not_eq_false (fun z => q23 ((bI_0 _).mpr z))))]; rfl) (by decide) rfl)
  · refine AW.run X K_twoNumbers_d 24 6 rfl ?_
    refine AW.cl13 (j := n - 1) X (hK.i (k := 1) (by omega)) (by have := hW.1; omega) (K_twoNumbers_d.d 30 rfl) ?_
    rw [(hK.2 (n - 1) (by omega)).2]
    refine AW.if_eq X (K_twoNumbers_d.d 31 rfl) (fun q31 => ?_) (fun q31 => ?_)
    · refine AW.run X K_twoNumbers_d 34 1 rfl ?_
      refine AW.gets X gs_K_124.1 gs_K_124.2 (K_twoNumbers_d.d 35 rfl) ?_
      refine AW.acmp_ne X (some 16) (some 17) (Or.inl (by decide)) (Or.inl (by decide)) (K_twoNumbers_d.d 36 rfl) (fun q => ?_) (fun q => absurd q (by decide))
      refine AW.run X K_twoNumbers_d 41 5 rfl ?_
      refine AW.callS (As := [.ref 16, .int (iZ (u (n - 2))), .int (iZ (u (n - 1)))]) X (K_ofTwoNumbers16_m S tl (u (n - 2)) (u (n - 1)) (hW.2 (n - 2) (by omega)).1 (hW.2 (n - 1) (by omega)).1) cb_K_127 K_ofTwoNumbers_st rfl ⟨Nat.le_of_ble_eq_true rfl, Nat.le_of_ble_eq_true rfl⟩ (Nat.le_of_ble_eq_true rfl) ⟨Nat.le_of_ble_eq_true rfl, Nat.le_of_ble_eq_true rfl⟩ (K_twoNumbers_d.d 46 rfl) (fun v h' q => ?_)
      obtain ⟨rfl, rfl⟩ := q
      refine AW.run X K_twoNumbers_d 47 1 rfl ?_
      refine AW.callV (As := [.int (nI 2), .long (lZ (ztimes (u (n - 2)) (u (n - 1)))), .int (bI (false))]) X (K_give_m S tl n 2 u t hW hK (ztimes (u (n - 2)) (u (n - 1))) false (by omega) (zN_L (zk_N _))) cb_K_80 rfl rfl K_give_im K_give_se rfl ⟨Nat.le_of_ble_eq_true rfl, Nat.le_of_ble_eq_true rfl⟩ (Nat.le_of_ble_eq_true rfl) ⟨Nat.le_of_ble_eq_true rfl, Nat.le_of_ble_eq_true rfl⟩ (K_twoNumbers_d.d 48 rfl) (fun v h' q => ?_)
      obtain ⟨rfl, q⟩ := q
      exact AW.iret X (K_twoNumbers_d.d 49 rfl) (Nat.le_of_ble_eq_true rfl) (Nat.le_of_ble_eq_true rfl) (kp_eq (by rw [pS_16]; unfold p2; rw [if_neg (by omega), if_neg (fun z => z.elim (fun z => by rw [bI_f0 q23] at z; cases z) (fun z => by rw [(bI_0 _).mp q31] at z; cases z)), if_neg Bool.false_ne_true]) ⟨rfl, q⟩)
    · refine AW.run X K_twoNumbers_d 32 1 rfl ?_
      exact AW.iret X (K_twoNumbers_d.d 33 rfl) (Nat.le_of_ble_eq_true rfl) (Nat.le_of_ble_eq_true rfl) (kp_e (c := 10) (by rw [pS_16]; unfold p2; rw [if_neg (by omega), if_pos (Or.inr (Bool.of_not_eq_false (fun z => q31 ((bI_0 _).mpr z))))]; rfl) (by decide) rfl)

set_option maxHeartbeats 4000000 in
set_option maxRecDepth 100000 in
theorem K_twoNumbers17_m {l : Launch} {G : ax_G} (S : x_S) (tl : List va_E) (n : Nat) (u : Nat → Int) (t : Nat → Bool) (hW : WS n u t) (hK : KS S n u t) (hn : 2 ≤ n) (num : Int) :
    AM l VV G K_twoNumbers_y K_twoNumbers_c 4 (some .int) 3 0 0 [.ref 150, .ref 17] (x_hC S tl) (fun v h' => kp S tl (pS 17 num n u t) v h') := by
  refine AM.of (pl := pl_K) (by decide) v_good fl_K_ok kl_K_ok nofun (Nat.le_of_ble_eq_true rfl) ?_
  intro p e s m args below meth c X
  refine AW.run X K_twoNumbers_d 0 6 rfl ?_
  refine AW.cl12 (j := n - 2) X (hK.i (k := 2) (by omega)) (by have := hW.1; omega) (K_twoNumbers_d.d 6 rfl) ?_
  rw [(hK.2 (n - 2) (by omega)).1]
  refine AW.run X K_twoNumbers_d 7 7 rfl ?_
  refine AW.cl12 (j := n - 1) X (hK.i (k := 1) (by omega)) (by have := hW.1; omega) (K_twoNumbers_d.d 14 rfl) ?_
  rw [(hK.2 (n - 1) (by omega)).1]
  refine AW.run X K_twoNumbers_d 15 7 rfl ?_
  refine AW.cl13 (j := n - 2) X (hK.i (k := 2) (by omega)) (by have := hW.1; omega) (K_twoNumbers_d.d 22 rfl) ?_
  rw [(hK.2 (n - 2) (by omega)).2]
  refine AW.if_ne X (K_twoNumbers_d.d 23 rfl) (fun q23 => ?_) (fun q23 => ?_)
  · refine AW.run X K_twoNumbers_d 32 1 rfl ?_
    exact AW.iret X (K_twoNumbers_d.d 33 rfl) (Nat.le_of_ble_eq_true rfl) (Nat.le_of_ble_eq_true rfl) (kp_e (c := 10) (by rw [pS_17]; unfold p2; rw [if_neg (by omega), if_pos (Or.inl (Bool.of_not_eq_false (fun z => q23 ((bI_0 _).mpr z))))]; rfl) (by decide) rfl)
  · refine AW.run X K_twoNumbers_d 24 6 rfl ?_
    refine AW.cl13 (j := n - 1) X (hK.i (k := 1) (by omega)) (by have := hW.1; omega) (K_twoNumbers_d.d 30 rfl) ?_
    rw [(hK.2 (n - 1) (by omega)).2]
    refine AW.if_eq X (K_twoNumbers_d.d 31 rfl) (fun q31 => ?_) (fun q31 => ?_)
    · refine AW.run X K_twoNumbers_d 34 1 rfl ?_
      refine AW.gets X gs_K_124.1 gs_K_124.2 (K_twoNumbers_d.d 35 rfl) ?_
      refine AW.acmp_ne X (some 17) (some 17) (Or.inl (by decide)) (Or.inl (by decide)) (K_twoNumbers_d.d 36 rfl) (fun q => absurd rfl q) (fun q => ?_)
      refine AW.run X K_twoNumbers_d 37 1 rfl ?_
      refine AW.if_ne X (K_twoNumbers_d.d 38 rfl) (fun q38 => ?_) (fun q38 => ?_)
      · have h0 : u (n - 1) ≠ 0 := fun z => q38 (by rw [z]; rfl)
        refine AW.run X K_twoNumbers_d 41 5 rfl ?_
        refine AW.callS (As := [.ref 17, .int (iZ (u (n - 2))), .int (iZ (u (n - 1)))]) X (K_ofTwoNumbers17_m S tl (u (n - 2)) (u (n - 1)) (hW.2 (n - 2) (by omega)).1 (hW.2 (n - 1) (by omega)).1 h0) cb_K_127 K_ofTwoNumbers_st rfl ⟨Nat.le_of_ble_eq_true rfl, Nat.le_of_ble_eq_true rfl⟩ (Nat.le_of_ble_eq_true rfl) ⟨Nat.le_of_ble_eq_true rfl, Nat.le_of_ble_eq_true rfl⟩ (K_twoNumbers_d.d 46 rfl) (fun v h' q => ?_)
        obtain ⟨rfl, rfl⟩ := q
        refine AW.run X K_twoNumbers_d 47 1 rfl ?_
        refine AW.callV (As := [.int (nI 2), .long (lZ (zover (u (n - 2)) (u (n - 1)))), .int (bI (false))]) X (K_give_m S tl n 2 u t hW hK (zover (u (n - 2)) (u (n - 1))) false (by omega) (zN_L (zk_N _))) cb_K_80 rfl rfl K_give_im K_give_se rfl ⟨Nat.le_of_ble_eq_true rfl, Nat.le_of_ble_eq_true rfl⟩ (Nat.le_of_ble_eq_true rfl) ⟨Nat.le_of_ble_eq_true rfl, Nat.le_of_ble_eq_true rfl⟩ (K_twoNumbers_d.d 48 rfl) (fun v h' q => ?_)
        obtain ⟨rfl, q⟩ := q
        exact AW.iret X (K_twoNumbers_d.d 49 rfl) (Nat.le_of_ble_eq_true rfl) (Nat.le_of_ble_eq_true rfl) (kp_eq (by rw [pS_17]; unfold p2; rw [if_neg (by omega), if_neg (fun z => z.elim (fun z => by rw [bI_f0 q23] at z; cases z) (fun z => by rw [(bI_0 _).mp q31] at z; cases z)), if_neg (by rw [decide_eq_true_eq]; exact h0)]) ⟨rfl, q⟩)
      · refine AW.run X K_twoNumbers_d 39 1 rfl ?_
        exact AW.iret X (K_twoNumbers_d.d 40 rfl) (Nat.le_of_ble_eq_true rfl) (Nat.le_of_ble_eq_true rfl) (kp_e (c := 13) (by rw [pS_17]; unfold p2; rw [if_neg (by omega), if_neg (fun z => z.elim (fun z => by rw [bI_f0 q23] at z; cases z) (fun z => by rw [(bI_0 _).mp q31] at z; cases z)), if_pos (by rw [decide_eq_true_eq]; exact (iZ_eq (zN_I (hW.2 (n - 1) (by omega)).1) ⟨by decide, by decide⟩).mp q38)]; rfl) (by decide) rfl)
    · refine AW.run X K_twoNumbers_d 32 1 rfl ?_
      exact AW.iret X (K_twoNumbers_d.d 33 rfl) (Nat.le_of_ble_eq_true rfl) (Nat.le_of_ble_eq_true rfl) (kp_e (c := 10) (by rw [pS_17]; unfold p2; rw [if_neg (by omega), if_pos (Or.inr (Bool.of_not_eq_false (fun z => q31 ((bI_0 _).mpr z))))]; rfl) (by decide) rfl)

