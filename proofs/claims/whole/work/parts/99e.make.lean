set_option maxHeartbeats 4000000 in
set_option maxRecDepth 100000 in
theorem N_makeF_m {l : Launch} {G : ax_G} (S : x_S) (tl : List va_E) (kd x y : Int32) (m0 : Nat) (h1 : ¬ x < 1) (h2 : x ≤ (if kd = 0 then 3 else if kd = 2 ∨ kd = 3 then 1 else if kd = 4 then 4 else 0)) (h3 : ¬ y < 1) (h4 : y ≤ 4) (h5 : S.1 1 = nI m0) (h6 : m0 < 24) (Pq : x_S → List va_E → Prop) (hE : AM l VV G N_built_y N_built_c 5 (some (.object "NumberFunctions$Function")) 8 6 8700 [.ref 132, .int kd, .int x, .int y] (x_hC (x_i (x_i S 3 (-1)) 4 (-1)) tl) (fun v h' => v = some .null ∧ ∃ S' tl', h' = x_hC S' tl' ∧ Pq S' tl')) :
    AM l VV G N_make_y N_make_c 5 (some .int) 9 6 8700 [.ref 132, .int kd, .int x, .int y] (x_hC S tl) (fun v h' => v = some (.int (-1)) ∧ ∃ S' tl', h' = x_hC S' tl' ∧ Pq S' tl') := by
  refine AM.of (pl := pl_N) (by decide) v_good fl_N_ok kl_N_ok nofun (Nat.le_of_ble_eq_true rfl) ?_
  intro p0v e0v s0v m0v args below meth c0v X
  refine AW.run X N_make_d 0 2 rfl ?_
  refine AW.icmp_lt X (N_make_d.d 2 rfl) (fun q2 => absurd q2 h1) (fun q2 => ?_)
  refine AW.run X N_make_d 3 2 rfl ?_
  refine AW.callS (As := [.int kd]) X (N_inputLimit_m kd) cb_N_98 N_inputLimit_st rfl ⟨Nat.le_of_ble_eq_true rfl, Nat.le_of_ble_eq_true rfl⟩ (Nat.le_of_ble_eq_true rfl) ⟨Nat.le_of_ble_eq_true rfl, Nat.le_of_ble_eq_true rfl⟩ (N_make_d.d 5 rfl) (fun v h' q => ?_)
  obtain ⟨rfl, rfl⟩ := q
  refine AW.icmp_le X (N_make_d.d 6 rfl) (fun q6 => ?_) (fun q6 => absurd h2 q6)
  refine AW.run X N_make_d 12 2 rfl ?_
  refine AW.icmp_lt X (N_make_d.d 14 rfl) (fun q14 => absurd q14 h3) (fun q14 => ?_)
  refine AW.run X N_make_d 15 2 rfl ?_
  refine AW.icmp_le X (N_make_d.d 17 rfl) (fun q17 => ?_) (fun q17 => absurd h4 q17)
  refine AW.run X N_make_d 23 1 rfl ?_
  refine AW.run X N_make_d 24 1 rfl ?_
  rw [h5]
  refine AW.run X N_make_d 25 1 rfl ?_
  refine AW.icmp_lt X (N_make_d.d 26 rfl) (fun q26 => ?_) (fun q26 => absurd (nI_lt h6 (by decide)) q26)
  refine AW.run X N_make_d 32 4 rfl ?_
  refine AW.callV (As := [.int (-1), .int (-1)]) X (U_set_m S tl (-1) (-1)) cb_N_108 rfl rfl U_set_im U_set_se rfl ⟨Nat.le_of_ble_eq_true rfl, Nat.le_of_ble_eq_true rfl⟩ (Nat.le_of_ble_eq_true rfl) ⟨Nat.le_of_ble_eq_true rfl, Nat.le_of_ble_eq_true rfl⟩ (N_make_d.d 36 rfl) (fun v h' q => ?_)
  obtain ⟨rfl, rfl⟩ := q
  refine AW.run X N_make_d 37 4 rfl ?_
  refine AW.callV (As := [.int kd, .int x, .int y]) X hE cb_N_112 rfl rfl N_built_im N_built_se rfl ⟨Nat.le_of_ble_eq_true rfl, Nat.le_of_ble_eq_true rfl⟩ (Nat.le_of_ble_eq_true rfl) ⟨Nat.le_of_ble_eq_true rfl, Nat.le_of_ble_eq_true rfl⟩ (N_make_d.d 41 rfl) (fun v h' q => ?_)
  obtain ⟨rfl, S2, tl2, rfl, hq⟩ := q
  refine AW.run X N_make_d 42 2 rfl ?_
  refine AW.ifnonnullN X (N_make_d.d 44 rfl) ?_
  refine AW.run X N_make_d 45 1 rfl ?_
  exact AW.iret X (N_make_d.d 46 rfl) (Nat.le_of_ble_eq_true rfl) (Nat.le_of_ble_eq_true rfl) ⟨rfl, S2, tl2, rfl, hq⟩

set_option maxHeartbeats 4000000 in
set_option maxRecDepth 100000 in
theorem N_makeS_m {l : Launch} {G : ax_G} (S : x_S) (tl : List va_E) (kd x y : Int32) (m0 : Nat) (h1 : ¬ x < 1) (h2 : x ≤ (if kd = 0 then 3 else if kd = 2 ∨ kd = 3 then 1 else if kd = 4 then 4 else 0)) (h3 : ¬ y < 1) (h4 : y ≤ 4) (h5 : S.1 1 = nI m0) (h6 : m0 < 24) (Pq : x_S → List va_E → Prop) (a : Nat) (hQ : ∀ S' tl', Pq S' tl' → S'.1 1 = nI m0 ∧ ∃ ci fs, tl'[a]? = some (.inr (ci, fs)) ∧ 5 ≤ ci ∧ ci ≤ 8) (hE : AM l VV G N_built_y N_built_c 5 (some (.object "NumberFunctions$Function")) 8 6 8700 [.ref 132, .int kd, .int x, .int y] (x_hC (x_i (x_i S 3 (-1)) 4 (-1)) tl) (fun v h' => v = some (.ref (153 + a)) ∧ ∃ S' tl', h' = x_hC S' tl' ∧ Pq S' tl')) :
    AM l VV G N_make_y N_make_c 5 (some .int) 9 6 8700 [.ref 132, .int kd, .int x, .int y] (x_hC S tl) (fun v h' => v = some (.int (nI m0)) ∧ ∃ S' tl', h' = x_hC (x_i (x_r (x_i S' 2 0) 0 m0 (some (153 + a))) 1 (nI (m0 + 1))) tl' ∧ Pq S' tl') := by
  refine AM.of (pl := pl_N) (by decide) v_good fl_N_ok kl_N_ok nofun (Nat.le_of_ble_eq_true rfl) ?_
  intro p0v e0v s0v m0v args below meth c0v X
  refine AW.run X N_make_d 0 2 rfl ?_
  refine AW.icmp_lt X (N_make_d.d 2 rfl) (fun q2 => absurd q2 h1) (fun q2 => ?_)
  refine AW.run X N_make_d 3 2 rfl ?_
  refine AW.callS (As := [.int kd]) X (N_inputLimit_m kd) cb_N_98 N_inputLimit_st rfl ⟨Nat.le_of_ble_eq_true rfl, Nat.le_of_ble_eq_true rfl⟩ (Nat.le_of_ble_eq_true rfl) ⟨Nat.le_of_ble_eq_true rfl, Nat.le_of_ble_eq_true rfl⟩ (N_make_d.d 5 rfl) (fun v h' q => ?_)
  obtain ⟨rfl, rfl⟩ := q
  refine AW.icmp_le X (N_make_d.d 6 rfl) (fun q6 => ?_) (fun q6 => absurd h2 q6)
  refine AW.run X N_make_d 12 2 rfl ?_
  refine AW.icmp_lt X (N_make_d.d 14 rfl) (fun q14 => absurd q14 h3) (fun q14 => ?_)
  refine AW.run X N_make_d 15 2 rfl ?_
  refine AW.icmp_le X (N_make_d.d 17 rfl) (fun q17 => ?_) (fun q17 => absurd h4 q17)
  refine AW.run X N_make_d 23 1 rfl ?_
  refine AW.run X N_make_d 24 1 rfl ?_
  rw [h5]
  refine AW.run X N_make_d 25 1 rfl ?_
  refine AW.icmp_lt X (N_make_d.d 26 rfl) (fun q26 => ?_) (fun q26 => absurd (nI_lt h6 (by decide)) q26)
  refine AW.run X N_make_d 32 4 rfl ?_
  refine AW.callV (As := [.int (-1), .int (-1)]) X (U_set_m S tl (-1) (-1)) cb_N_108 rfl rfl U_set_im U_set_se rfl ⟨Nat.le_of_ble_eq_true rfl, Nat.le_of_ble_eq_true rfl⟩ (Nat.le_of_ble_eq_true rfl) ⟨Nat.le_of_ble_eq_true rfl, Nat.le_of_ble_eq_true rfl⟩ (N_make_d.d 36 rfl) (fun v h' q => ?_)
  obtain ⟨rfl, rfl⟩ := q
  refine AW.run X N_make_d 37 4 rfl ?_
  refine AW.callV (As := [.int kd, .int x, .int y]) X hE cb_N_112 rfl rfl N_built_im N_built_se rfl ⟨Nat.le_of_ble_eq_true rfl, Nat.le_of_ble_eq_true rfl⟩ (Nat.le_of_ble_eq_true rfl) ⟨Nat.le_of_ble_eq_true rfl, Nat.le_of_ble_eq_true rfl⟩ (N_make_d.d 41 rfl) (fun v h' q => ?_)
  obtain ⟨rfl, S2, tl2, rfl, hq⟩ := q
  refine AW.run X N_make_d 42 2 rfl ?_
  refine AW.ifnonnull X (N_make_d.d 44 rfl) ?_
  obtain ⟨g1, ci, fs, g2, g3⟩ := hQ S2 tl2 hq
  obtain ⟨rc, w1, w2⟩ := fnc g3
  refine AW.run X N_make_d 47 3 rfl ?_
  refine AW.cp2 X (N_make_d.d 50 rfl) ?_
  refine AW.run X N_make_d 51 3 rfl ?_
  refine AW.run X N_make_d 54 1 rfl ?_
  rw [show (x_i S2 2 (Int32.ofInt 0)).1 1 = nI m0 from g1]
  refine AW.run X N_make_d 55 1 rfl ?_
  refine AW.crs0 (j := m0) X ((x_tl _ _ a).trans g2) w1 w2 rfl h6 (N_make_d.d 56 rfl) ?_
  refine AW.run X N_make_d 57 2 rfl ?_
  refine AW.run X N_make_d 59 3 rfl ?_
  rw [show (x_r (x_i S2 2 (Int32.ofInt 0)) 0 m0 (some (153 + a))).1 1 = nI m0 from g1, nI_o1]
  refine AW.cp1 X (N_make_d.d 62 rfl) ?_
  refine AW.run X N_make_d 63 1 rfl ?_
  refine AW.run X N_make_d 64 3 rfl ?_
  rw [show (x_i (x_r (x_i S2 2 (Int32.ofInt 0)) 0 m0 (some (153 + a))) 1 (nI (m0 + 1))).1 1 - Int32.ofInt 1 = nI m0 from by show nI (m0 + 1) - Int32.ofInt 1 = nI m0; rw [← nI_o1, Int32.add_sub_cancel]]
  exact AW.iret X (N_make_d.d 67 rfl) (Nat.le_of_ble_eq_true rfl) (Nat.le_of_ble_eq_true rfl) ⟨rfl, S2, tl2, rfl, hq⟩

