/-! CONSTRUCTORS of functions -/
theorem st_s {h : List va_E} {k : Nat} {c d : va_E} (e : h[k]? = some c) : (h.set k d)[k]? = some d := by
  rw [List.getElem?_set_self ((List.getElem?_eq_some_iff.mp e).1)]
theorem st_o {h : List va_E} {k j : Nat} {c d : va_E} (e : h[j]? = some c) (n : k ≠ j) : (h.set k d)[j]? = some c := by
  rw [List.getElem?_set_ne n]; exact e

set_option maxHeartbeats 4000000 in
set_option maxRecDepth 100000 in
theorem F_initS_m {l : Launch} {G : ax_G} {h : List va_E} (ao bt : Nat) (x0 x1 : Int32) (hA : h[ao]? = some (.inr (5, [.null, .int 0, .null, .null, .null, .int 0, .int 0, .null]))) (hna : ax_nC ≤ ao) :
    AM l VV G F_init_y F_init_c 4 none 1 0 0 [.ref ao, .int x0, .int x1, .ref bt] (h) (fun v h' => v = none ∧ h' = h.set ao (.inr (5, [.null, .int 0, .null, .null, .null, .int x0, .int x1, .ref bt]))) := by
  refine AM.of (pl := pi_F) (by decide) v_good fl_F_ok kl_F_ok (fun _ => rfl) (Nat.le_of_ble_eq_true rfl) ?_
  intro p0v e0v s0v m0v args below meth c0v X
  refine AW.run X F_init_d 0 1 rfl ?_
  refine AW.objInit X (mt2 (List.mem_of_getElem? (i := 167) rfl)) (mt1 (List.mem_of_getElem? (i := 35) rfl)) (mt1 (List.mem_of_getElem? (i := 36) rfl)) (F_init_d.d 1 rfl) (Nat.le_of_ble_eq_true rfl) (Nat.le_of_ble_eq_true rfl) (Nat.le_of_ble_eq_true rfl) ?_
  refine AW.run X F_init_d 2 2 rfl ?_
  refine AW.putF X hA hna rfl rfl L_S rfl rfl rfl rfl rfl rfl (Nat.le_of_ble_eq_true rfl) (F_init_d.d 4 rfl) ?_
  refine AW.run X F_init_d 5 2 rfl ?_
  refine AW.putF X (st_s hA) hna rfl rfl L_S rfl rfl rfl rfl rfl rfl (Nat.le_of_ble_eq_true rfl) (F_init_d.d 7 rfl) ?_
  rw [List.set_set]
  refine AW.run X F_init_d 8 2 rfl ?_
  refine AW.putF X (st_s hA) hna rfl rfl L_S rfl rfl rfl rfl rfl rfl (Nat.le_of_ble_eq_true rfl) (F_init_d.d 10 rfl) ?_
  rw [List.set_set]
  exact AW.vret X (F_init_d.d 11 rfl) (Nat.le_of_ble_eq_true rfl) (Nat.le_of_ble_eq_true rfl) ⟨rfl, rfl⟩

set_option maxHeartbeats 4000000 in
set_option maxRecDepth 100000 in
theorem F_initP_m {l : Launch} {G : ax_G} {h : List va_E} (ao bt : Nat) (x0 x1 : Int32) (hA : h[ao]? = some (.inr (6, [.int 0, .int 0, .null]))) (hna : ax_nC ≤ ao) :
    AM l VV G F_init_y F_init_c 4 none 1 0 0 [.ref ao, .int x0, .int x1, .ref bt] (h) (fun v h' => v = none ∧ h' = h.set ao (.inr (6, [.int x0, .int x1, .ref bt]))) := by
  refine AM.of (pl := pi_F) (by decide) v_good fl_F_ok kl_F_ok (fun _ => rfl) (Nat.le_of_ble_eq_true rfl) ?_
  intro p0v e0v s0v m0v args below meth c0v X
  refine AW.run X F_init_d 0 1 rfl ?_
  refine AW.objInit X (mt2 (List.mem_of_getElem? (i := 167) rfl)) (mt1 (List.mem_of_getElem? (i := 35) rfl)) (mt1 (List.mem_of_getElem? (i := 36) rfl)) (F_init_d.d 1 rfl) (Nat.le_of_ble_eq_true rfl) (Nat.le_of_ble_eq_true rfl) (Nat.le_of_ble_eq_true rfl) ?_
  refine AW.run X F_init_d 2 2 rfl ?_
  refine AW.putF X hA hna rfl rfl L_P rfl rfl rfl rfl rfl rfl (Nat.le_of_ble_eq_true rfl) (F_init_d.d 4 rfl) ?_
  refine AW.run X F_init_d 5 2 rfl ?_
  refine AW.putF X (st_s hA) hna rfl rfl L_P rfl rfl rfl rfl rfl rfl (Nat.le_of_ble_eq_true rfl) (F_init_d.d 7 rfl) ?_
  rw [List.set_set]
  refine AW.run X F_init_d 8 2 rfl ?_
  refine AW.putF X (st_s hA) hna rfl rfl L_P rfl rfl rfl rfl rfl rfl (Nat.le_of_ble_eq_true rfl) (F_init_d.d 10 rfl) ?_
  rw [List.set_set]
  exact AW.vret X (F_init_d.d 11 rfl) (Nat.le_of_ble_eq_true rfl) (Nat.le_of_ble_eq_true rfl) ⟨rfl, rfl⟩

set_option maxHeartbeats 4000000 in
set_option maxRecDepth 100000 in
theorem F_initZ_m {l : Launch} {G : ax_G} {h : List va_E} (ao bt : Nat) (x0 x1 : Int32) (hA : h[ao]? = some (.inr (7, [.null, .int 0, .int 0, .null]))) (hna : ax_nC ≤ ao) :
    AM l VV G F_init_y F_init_c 4 none 1 0 0 [.ref ao, .int x0, .int x1, .ref bt] (h) (fun v h' => v = none ∧ h' = h.set ao (.inr (7, [.null, .int x0, .int x1, .ref bt]))) := by
  refine AM.of (pl := pi_F) (by decide) v_good fl_F_ok kl_F_ok (fun _ => rfl) (Nat.le_of_ble_eq_true rfl) ?_
  intro p0v e0v s0v m0v args below meth c0v X
  refine AW.run X F_init_d 0 1 rfl ?_
  refine AW.objInit X (mt2 (List.mem_of_getElem? (i := 167) rfl)) (mt1 (List.mem_of_getElem? (i := 35) rfl)) (mt1 (List.mem_of_getElem? (i := 36) rfl)) (F_init_d.d 1 rfl) (Nat.le_of_ble_eq_true rfl) (Nat.le_of_ble_eq_true rfl) (Nat.le_of_ble_eq_true rfl) ?_
  refine AW.run X F_init_d 2 2 rfl ?_
  refine AW.putF X hA hna rfl rfl L_Z rfl rfl rfl rfl rfl rfl (Nat.le_of_ble_eq_true rfl) (F_init_d.d 4 rfl) ?_
  refine AW.run X F_init_d 5 2 rfl ?_
  refine AW.putF X (st_s hA) hna rfl rfl L_Z rfl rfl rfl rfl rfl rfl (Nat.le_of_ble_eq_true rfl) (F_init_d.d 7 rfl) ?_
  rw [List.set_set]
  refine AW.run X F_init_d 8 2 rfl ?_
  refine AW.putF X (st_s hA) hna rfl rfl L_Z rfl rfl rfl rfl rfl rfl (Nat.le_of_ble_eq_true rfl) (F_init_d.d 10 rfl) ?_
  rw [List.set_set]
  exact AW.vret X (F_init_d.d 11 rfl) (Nat.le_of_ble_eq_true rfl) (Nat.le_of_ble_eq_true rfl) ⟨rfl, rfl⟩

set_option maxHeartbeats 4000000 in
set_option maxRecDepth 100000 in
theorem F_initG_m {l : Launch} {G : ax_G} {h : List va_E} (ao bt : Nat) (x0 x1 : Int32) (hA : h[ao]? = some (.inr (8, [.int 0, .null, .null, .null, .null, .null, .int 0, .int 0, .null]))) (hna : ax_nC ≤ ao) :
    AM l VV G F_init_y F_init_c 4 none 1 0 0 [.ref ao, .int x0, .int x1, .ref bt] (h) (fun v h' => v = none ∧ h' = h.set ao (.inr (8, [.int 0, .null, .null, .null, .null, .null, .int x0, .int x1, .ref bt]))) := by
  refine AM.of (pl := pi_F) (by decide) v_good fl_F_ok kl_F_ok (fun _ => rfl) (Nat.le_of_ble_eq_true rfl) ?_
  intro p0v e0v s0v m0v args below meth c0v X
  refine AW.run X F_init_d 0 1 rfl ?_
  refine AW.objInit X (mt2 (List.mem_of_getElem? (i := 167) rfl)) (mt1 (List.mem_of_getElem? (i := 35) rfl)) (mt1 (List.mem_of_getElem? (i := 36) rfl)) (F_init_d.d 1 rfl) (Nat.le_of_ble_eq_true rfl) (Nat.le_of_ble_eq_true rfl) (Nat.le_of_ble_eq_true rfl) ?_
  refine AW.run X F_init_d 2 2 rfl ?_
  refine AW.putF X hA hna rfl rfl L_G rfl rfl rfl rfl rfl rfl (Nat.le_of_ble_eq_true rfl) (F_init_d.d 4 rfl) ?_
  refine AW.run X F_init_d 5 2 rfl ?_
  refine AW.putF X (st_s hA) hna rfl rfl L_G rfl rfl rfl rfl rfl rfl (Nat.le_of_ble_eq_true rfl) (F_init_d.d 7 rfl) ?_
  rw [List.set_set]
  refine AW.run X F_init_d 8 2 rfl ?_
  refine AW.putF X (st_s hA) hna rfl rfl L_G rfl rfl rfl rfl rfl rfl (Nat.le_of_ble_eq_true rfl) (F_init_d.d 10 rfl) ?_
  rw [List.set_set]
  exact AW.vret X (F_init_d.d 11 rfl) (Nat.le_of_ble_eq_true rfl) (Nat.le_of_ble_eq_true rfl) ⟨rfl, rfl⟩

set_option maxHeartbeats 4000000 in
set_option maxRecDepth 100000 in
theorem P_init_m {l : Launch} {G : ax_G} {h : List va_E} (ao bt : Nat) (x1 : Int32) (hA : h[ao]? = some (.inr (6, [.int 0, .int 0, .null]))) (hna : ax_nC ≤ ao) :
    AM l VV G P_init_y P_init_c 3 none 2 0 0 [.ref ao, .int x1, .ref bt] (h) (fun v h' => v = none ∧ h' = h.set ao (.inr (6, [.int (nI 1), .int x1, .ref bt]))) := by
  refine AM.of (pl := pi_P) (by decide) v_good fl_P_ok kl_P_ok (fun _ => rfl) (Nat.le_of_ble_eq_true rfl) ?_
  intro p0v e0v s0v m0v args below meth c0v X
  refine AW.run X P_init_d 0 4 rfl ?_
  refine AW.callI (As := [.int (nI 1), .int x1, .ref bt]) X (F_initP_m ao bt (nI 1) x1 hA hna) cb_P_3 rfl F_init_im rfl ⟨Nat.le_of_ble_eq_true rfl, Nat.le_of_ble_eq_true rfl⟩ (Nat.le_of_ble_eq_true rfl) ⟨Nat.le_of_ble_eq_true rfl, Nat.le_of_ble_eq_true rfl⟩ (P_init_d.d 4 rfl) (fun v h' q => ?_)
  obtain ⟨rfl, e9⟩ := q
  rw [e9]
  clear e9
  exact AW.vret X (P_init_d.d 5 rfl) (Nat.le_of_ble_eq_true rfl) (Nat.le_of_ble_eq_true rfl) ⟨rfl, rfl⟩

