section T40
variable {l : Launch} {G : ax_G}
set_option maxHeartbeats 4000000 in
set_option maxRecDepth 100000 in
theorem M_drop_m (S : x_S) (M : x_M) (tl : List va_E) :
    AM l VV G M_drop_y M_drop_c 2 (some .int) 0 0 0 [.ref 111] (x_hM S M tl) (fun v h' => v = some (.int (M.1 2)) ∧ h' = x_hM S (y_i (y_i M 0 0) 2 0) tl) := by
  refine AM.of (pl := pl_M) (by decide) v_good fl_M_ok kl_M_ok nofun (Nat.le_of_ble_eq_true rfl) ?_
  intro p e s m args below meth c X
  refine AW.run X M_drop_d 0 2 rfl ?_
  refine AW.put (C := "NumberFunctionsModel") (T := Cl_M) (N := 32) (ty := .int) X rfl (by decide) rfl rfl L_M rfl rfl rfl rfl (Nat.le_of_ble_eq_true rfl) (M_drop_d.d 2 rfl) ?_
  refine AW.eq (h' := x_hM S (y_i M 0 0) tl) rfl ?_
  sorry
end T40
