theorem l1_s {tl : List va_E} {t c : va_E} : (tl ++ ([t] ++ [c]))[tl.length + 1]? = some c := by
  rw [List.getElem?_append_right (by omega), Nat.add_sub_cancel_left]; rfl
theorem l0_s {tl t : List va_E} {c : va_E} : (tl ++ (c :: t))[tl.length]? = some c := by
  rw [List.getElem?_append_right (Nat.le_refl _), Nat.sub_self]; rfl
theorem l1_t {tl : List va_E} {t c d : va_E} : (tl ++ ([t] ++ [c])).set (tl.length + 1) d = tl ++ [t, d] := by
  rw [List.set_append_right _ _ (by omega), Nat.add_sub_cancel_left]; rfl

set_option maxHeartbeats 4000000 in
set_option maxRecDepth 100000 in
theorem N_builtT_m {l : Launch} {G : ax_G} (S : x_S) (tl : List va_E) (kd : Int32) (i m n : Nat) (hc : S.1 2 = nI n) (hn : n ≤ 96) (hE : AM l VV G N_isTold_y N_isTold_c 4 (some .boolean) 2 0 0 [.ref 132, .int kd, .int (nI i), .int (nI m)] (x_hC S tl) (fun v h' => v = some (.int (bI false)) ∧ h' = x_hC S tl))  :
    AM l VV G N_built_y N_built_c 5 (some (.object "NumberFunctions$Function")) 8 6 8700 [.ref 132, .int kd, .int (nI i), .int (nI m)] (x_hC S tl) (fun v h' => v = some .null ∧ h' = x_hC (x_i (x_i S 3 1) 4 0) tl) := by
  refine AM.of (pl := pl_N) (by decide) v_good fl_N_ok kl_N_ok nofun (Nat.le_of_ble_eq_true rfl) ?_
  intro p0v e0v s0v m0v args below meth c0v X
  refine AW.run X N_built_d 0 4 rfl ?_
  refine AW.callV (As := [.int kd, .int (nI i), .int (nI m)]) X hE cb_N_146 rfl rfl N_isTold_im N_isTold_se rfl ⟨Nat.le_of_ble_eq_true rfl, Nat.le_of_ble_eq_true rfl⟩ (Nat.le_of_ble_eq_true rfl) ⟨Nat.le_of_ble_eq_true rfl, Nat.le_of_ble_eq_true rfl⟩ (N_built_d.d 4 rfl) (fun v h' q => ?_)
  obtain ⟨rfl, rfl⟩ := q
  refine AW.if_ne X (N_built_d.d 5 rfl) (fun q5 => absurd rfl q5) (fun q5 => ?_)
  refine AW.run X N_built_d 6 4 rfl ?_
  refine AW.callV (As := [.int 1, .int 0]) X (U_set_m S tl 1 0) cb_N_108 rfl rfl U_set_im U_set_se rfl ⟨Nat.le_of_ble_eq_true rfl, Nat.le_of_ble_eq_true rfl⟩ (Nat.le_of_ble_eq_true rfl) ⟨Nat.le_of_ble_eq_true rfl, Nat.le_of_ble_eq_true rfl⟩ (N_built_d.d 10 rfl) (fun v h' q => ?_)
  obtain ⟨rfl, rfl⟩ := q
  refine AW.run X N_built_d 11 1 rfl ?_
  exact AW.aret X none (N_built_d.d 12 rfl) (Nat.le_of_ble_eq_true rfl) (Nat.le_of_ble_eq_true rfl) ⟨rfl, rfl⟩

set_option maxHeartbeats 4000000 in
set_option maxRecDepth 100000 in
theorem N_builtY_m {l : Launch} {G : ax_G} (S : x_S) (tl : List va_E) (i m n : Nat) (hc : S.1 2 = nI n) (hn : n ≤ 96) (hE : AM l VV G N_isTold_y N_isTold_c 4 (some .boolean) 2 0 0 [.ref 132, .int (nI 0), .int (nI i), .int (nI m)] (x_hC S tl) (fun v h' => v = some (.int (bI true)) ∧ h' = x_hC S tl)) (r : Nat) (hi : 1 ≤ i ∧ i ≤ 3) (hm : 1 ≤ m ∧ m ≤ 4) (hS : tp_S2 (S.2.1 1) n i m m) (hr : S.1 0 = nI r) (hr8 : r ≤ 8192) (hy0 : (r : Int) < tp_y (S.2.1 1) i m) :
    AM l VV G N_built_y N_built_c 5 (some (.object "NumberFunctions$Function")) 8 6 8700 [.ref 132, .int (nI 0), .int (nI i), .int (nI m)] (x_hC S tl) (fun v h' => v = some .null ∧ ∃ g, h' = x_hC (x_i (x_i S 3 2) 4 (iZ (tp_y (S.2.1 1) i m))) (tl ++ [.inl (0, n, .inl g)])) := by
  refine AM.of (pl := pl_N) (by decide) v_good fl_N_ok kl_N_ok nofun (Nat.le_of_ble_eq_true rfl) ?_
  intro p0v e0v s0v m0v args below meth c0v X
  refine AW.run X N_built_d 0 4 rfl ?_
  refine AW.callV (As := [.int (nI 0), .int (nI i), .int (nI m)]) X hE cb_N_146 rfl rfl N_isTold_im N_isTold_se rfl ⟨Nat.le_of_ble_eq_true rfl, Nat.le_of_ble_eq_true rfl⟩ (Nat.le_of_ble_eq_true rfl) ⟨Nat.le_of_ble_eq_true rfl, Nat.le_of_ble_eq_true rfl⟩ (N_built_d.d 4 rfl) (fun v h' q => ?_)
  obtain ⟨rfl, rfl⟩ := q
  refine AW.if_ne X (N_built_d.d 5 rfl) (fun q5 => ?_) (fun q5 => absurd q5 (by decide))
  refine AW.run X N_built_d 13 6 rfl ?_
  rw [hc]
  refine AW.callS (As := [.ref 135, .int (nI n)]) X (JArrays_copyOf1_m 135 96 n (S.2.1 1) rfl hn (by decide) (by rw [x_len]; show 132 ≤ _; omega)) cb_N_150 JArrays_copyOf1_st rfl ⟨Nat.le_of_ble_eq_true rfl, Nat.le_of_ble_eq_true rfl⟩ (Nat.le_of_ble_eq_true rfl) ⟨Nat.le_of_ble_eq_true rfl, Nat.le_of_ble_eq_true rfl⟩ (N_built_d.d 19 rfl) (fun v h' q => ?_)
  obtain ⟨rfl, g, e9, gT⟩ := q
  rw [e9, x_app, x_len]
  clear e9
  refine AW.run X N_built_d 20 2 rfl ?_
  refine AW.tableIn X (N_built_d.d 22 rfl) (by decide) (by decide) (off := 31) (by decide) ?_
  refine AW.run X N_built_d 23 4 rfl ?_
  have hh := N_builtSamplesF_m (l := l) (G := G) S (tl ++ [.inl (0, n, .inl g)]) tl.length i m n r 0 g (S.2.1 1) (ap_l _ _) gT hi hm hS hr hr8 hy0
  refine AW.callV (As := [.int (nI i), .int (nI m), .ref (153 + tl.length)]) X hh cb_N_156 rfl rfl N_builtSamples_im N_builtSamples_se rfl ⟨Nat.le_of_ble_eq_true rfl, Nat.le_of_ble_eq_true rfl⟩ (Nat.le_of_ble_eq_true rfl) ⟨Nat.le_of_ble_eq_true rfl, Nat.le_of_ble_eq_true rfl⟩ (N_built_d.d 27 rfl) (fun v h' q => ?_)
  obtain ⟨rfl, rfl⟩ := q
  exact AW.aret X none (N_built_d.d 28 rfl) (Nat.le_of_ble_eq_true rfl) (Nat.le_of_ble_eq_true rfl) ⟨rfl, g, rfl⟩

set_option maxHeartbeats 4000000 in
set_option maxRecDepth 100000 in
theorem N_builtS_m {l : Launch} {G : ax_G} (S : x_S) (tl : List va_E) (i m n : Nat) (hc : S.1 2 = nI n) (hn : n ≤ 96) (hE : AM l VV G N_isTold_y N_isTold_c 4 (some .boolean) 2 0 0 [.ref 132, .int (nI 0), .int (nI i), .int (nI m)] (x_hC S tl) (fun v h' => v = some (.int (bI true)) ∧ h' = x_hC S tl)) (r : Nat) (hi : 1 ≤ i ∧ i ≤ 3) (hm : 1 ≤ m ∧ m ≤ 4) (hS : tp_S2 (S.2.1 1) n i m m) (hr : S.1 0 = nI r) (hr8 : r ≤ 8192) (wd : Nat) (hw : S.2.1 1 (5 * i) = nI wd) (hfit : ∀ j, j < 8192 → fits .byte (.int (S.2.1 0 j)) = true) (hy0 : tp_y (S.2.1 1) i m ≤ (r : Int)) :
    AM l VV G N_built_y N_built_c 5 (some (.object "NumberFunctions$Function")) 8 6 8700 [.ref 132, .int (nI 0), .int (nI i), .int (nI m)] (x_hC S tl) (fun v h' => v = some (.ref (153 + (tl.length + 1))) ∧ ∃ g Bt, h' = x_hC S (tl ++ [.inl (0, n, .inl g), sOb (153 + (tl.length + 2)) (tl.length + 3) (153 + tl.length) i m wd, .inl (1, (tp_y (S.2.1 1) i m).toNat, .inl Bt), .inl (0, 3, .inl (fun _ => 0)), .inl (0, 3, .inl (fun _ => 0)), .inl (2, 8, .inr (.inl (fun _ => 0)))]) ∧ (∀ j, j < n → g j = S.2.1 1 j) ∧ ∀ j, j < (tp_y (S.2.1 1) i m).toNat → Bt j = S.2.1 0 j) := by
  refine AM.of (pl := pl_N) (by decide) v_good fl_N_ok kl_N_ok nofun (Nat.le_of_ble_eq_true rfl) ?_
  intro p0v e0v s0v m0v args below meth c0v X
  refine AW.run X N_built_d 0 4 rfl ?_
  refine AW.callV (As := [.int (nI 0), .int (nI i), .int (nI m)]) X hE cb_N_146 rfl rfl N_isTold_im N_isTold_se rfl ⟨Nat.le_of_ble_eq_true rfl, Nat.le_of_ble_eq_true rfl⟩ (Nat.le_of_ble_eq_true rfl) ⟨Nat.le_of_ble_eq_true rfl, Nat.le_of_ble_eq_true rfl⟩ (N_built_d.d 4 rfl) (fun v h' q => ?_)
  obtain ⟨rfl, rfl⟩ := q
  refine AW.if_ne X (N_built_d.d 5 rfl) (fun q5 => ?_) (fun q5 => absurd q5 (by decide))
  refine AW.run X N_built_d 13 6 rfl ?_
  rw [hc]
  refine AW.callS (As := [.ref 135, .int (nI n)]) X (JArrays_copyOf1_m 135 96 n (S.2.1 1) rfl hn (by decide) (by rw [x_len]; show 132 ≤ _; omega)) cb_N_150 JArrays_copyOf1_st rfl ⟨Nat.le_of_ble_eq_true rfl, Nat.le_of_ble_eq_true rfl⟩ (Nat.le_of_ble_eq_true rfl) ⟨Nat.le_of_ble_eq_true rfl, Nat.le_of_ble_eq_true rfl⟩ (N_built_d.d 19 rfl) (fun v h' q => ?_)
  obtain ⟨rfl, g, e9, gT⟩ := q
  rw [e9, x_app, x_len]
  clear e9
  refine AW.run X N_built_d 20 2 rfl ?_
  refine AW.tableIn X (N_built_d.d 22 rfl) (by decide) (by decide) (off := 31) (by decide) ?_
  refine AW.run X N_built_d 23 4 rfl ?_
  have hh := N_builtSamplesS_m (l := l) (G := G) S (tl ++ [.inl (0, n, .inl g)]) tl.length i m n r wd g (S.2.1 1) (ap_l _ _) gT hi hm hS hr hr8 hw hfit hy0
  refine AW.callV (As := [.int (nI i), .int (nI m), .ref (153 + tl.length)]) X hh cb_N_156 rfl rfl N_builtSamples_im N_builtSamples_se rfl ⟨Nat.le_of_ble_eq_true rfl, Nat.le_of_ble_eq_true rfl⟩ (Nat.le_of_ble_eq_true rfl) ⟨Nat.le_of_ble_eq_true rfl, Nat.le_of_ble_eq_true rfl⟩ (N_built_d.d 27 rfl) (fun v h' q => ?_)
  obtain ⟨rfl, Bt, e9, gB⟩ := q
  rw [e9, List.append_assoc, List.length_append]
  clear e9
  exact AW.aret X (some (153 + (tl.length + 1))) (N_built_d.d 28 rfl) (Nat.le_of_ble_eq_true rfl) (Nat.le_of_ble_eq_true rfl) ⟨rfl, g, Bt, rfl, gT, gB⟩

set_option maxHeartbeats 4000000 in
set_option maxRecDepth 100000 in
theorem N_builtP_m {l : Launch} {G : ax_G} (S : x_S) (tl : List va_E) (i m n : Nat) (hc : S.1 2 = nI n) (hn : n ≤ 96) (hE : AM l VV G N_isTold_y N_isTold_c 4 (some .boolean) 2 0 0 [.ref 132, .int (nI 2), .int (nI i), .int (nI m)] (x_hC S tl) (fun v h' => v = some (.int (bI true)) ∧ h' = x_hC S tl))  :
    AM l VV G N_built_y N_built_c 5 (some (.object "NumberFunctions$Function")) 8 6 8700 [.ref 132, .int (nI 2), .int (nI i), .int (nI m)] (x_hC S tl) (fun v h' => v = some (.ref (153 + (tl.length + 1))) ∧ ∃ g, h' = x_hC S (tl ++ [.inl (0, n, .inl g), .inr (6, [.int (nI 1), .int (nI m), .ref (153 + tl.length)])]) ∧ (∀ j, j < n → g j = S.2.1 1 j)) := by
  refine AM.of (pl := pl_N) (by decide) v_good fl_N_ok kl_N_ok nofun (Nat.le_of_ble_eq_true rfl) ?_
  intro p0v e0v s0v m0v args below meth c0v X
  refine AW.run X N_built_d 0 4 rfl ?_
  refine AW.callV (As := [.int (nI 2), .int (nI i), .int (nI m)]) X hE cb_N_146 rfl rfl N_isTold_im N_isTold_se rfl ⟨Nat.le_of_ble_eq_true rfl, Nat.le_of_ble_eq_true rfl⟩ (Nat.le_of_ble_eq_true rfl) ⟨Nat.le_of_ble_eq_true rfl, Nat.le_of_ble_eq_true rfl⟩ (N_built_d.d 4 rfl) (fun v h' q => ?_)
  obtain ⟨rfl, rfl⟩ := q
  refine AW.if_ne X (N_built_d.d 5 rfl) (fun q5 => ?_) (fun q5 => absurd q5 (by decide))
  refine AW.run X N_built_d 13 6 rfl ?_
  rw [hc]
  refine AW.callS (As := [.ref 135, .int (nI n)]) X (JArrays_copyOf1_m 135 96 n (S.2.1 1) rfl hn (by decide) (by rw [x_len]; show 132 ≤ _; omega)) cb_N_150 JArrays_copyOf1_st rfl ⟨Nat.le_of_ble_eq_true rfl, Nat.le_of_ble_eq_true rfl⟩ (Nat.le_of_ble_eq_true rfl) ⟨Nat.le_of_ble_eq_true rfl, Nat.le_of_ble_eq_true rfl⟩ (N_built_d.d 19 rfl) (fun v h' q => ?_)
  obtain ⟨rfl, g, e9, gT⟩ := q
  rw [e9, x_app, x_len]
  clear e9
  refine AW.run X N_built_d 20 2 rfl ?_
  refine AW.tableIn X (N_built_d.d 22 rfl) (by decide) (by decide) (off := 40) (by decide) ?_
  refine AW.new (ci := 6) (fs := [.int 0, .int 0, .null]) (ty := Ty_P) X rfl L_P.1 (by decide +kernel) (mt2 (List.mem_of_getElem? (i := 213) rfl)) N_P I_P (fun j hj => by
    have : j = 0 ∨ j = 1 ∨ j = 2 := by omega
    rcases this with rfl | rfl | rfl <;> rfl) (Nat.le_of_ble_eq_true rfl) (Nat.le_of_ble_eq_true rfl) (N_built_d.d 29 rfl) ?_
  rw [x_app, x_len, List.append_assoc, List.length_append]
  refine AW.run X N_built_d 30 3 rfl ?_
  refine AW.callI (As := [.int (nI m), .ref (153 + tl.length)]) X (P_init_m (153 + (tl.length + 1)) (153 + tl.length) (nI m) ((x_tl _ _ (tl.length + 1)).trans l1_s) (by show 132 ≤ 153 + _; omega)) cb_N_162 rfl P_init_im rfl ⟨Nat.le_of_ble_eq_true rfl, Nat.le_of_ble_eq_true rfl⟩ (Nat.le_of_ble_eq_true rfl) ⟨Nat.le_of_ble_eq_true rfl, Nat.le_of_ble_eq_true rfl⟩ (N_built_d.d 33 rfl) (fun v h' q => ?_)
  obtain ⟨rfl, e9⟩ := q
  rw [e9, x_set, l1_t]
  clear e9
  exact AW.aret X (some (153 + (tl.length + 1))) (N_built_d.d 34 rfl) (Nat.le_of_ble_eq_true rfl) (Nat.le_of_ble_eq_true rfl) ⟨rfl, g, rfl, gT⟩

set_option maxHeartbeats 4000000 in
set_option maxRecDepth 100000 in
theorem N_builtZ_m {l : Launch} {G : ax_G} (S : x_S) (tl : List va_E) (i m n : Nat) (hc : S.1 2 = nI n) (hn : n ≤ 96) (hE : AM l VV G N_isTold_y N_isTold_c 4 (some .boolean) 2 0 0 [.ref 132, .int (nI 3), .int (nI i), .int (nI m)] (x_hC S tl) (fun v h' => v = some (.int (bI true)) ∧ h' = x_hC S tl)) (K : Nat) (hK : 1 ≤ K ∧ K ≤ 8 ∧ 3 + K ≤ n) (h2 : S.2.1 1 2 = nI K) (hP : ∀ j, j < K → ∃ (f pa ci : Nat) (fs : List Value), S.2.1 1 (3 + j) = nI f ∧ f < 24 ∧ S.2.2.1 0 f = some (153 + pa) ∧ tl[pa]? = some (.inr (ci, fs)) ∧ 5 ≤ ci ∧ ci ≤ 8) :
    AM l VV G N_built_y N_built_c 5 (some (.object "NumberFunctions$Function")) 8 6 8700 [.ref 132, .int (nI 3), .int (nI i), .int (nI m)] (x_hC S tl) (fun v h' => v = some (.ref (153 + (tl.length + 1))) ∧ ∃ g Fp, h' = x_hC S (tl ++ [.inl (0, n, .inl g), .inr (7, [.ref (153 + (tl.length + 2)), .int (nI 1), .int (nI m), .ref (153 + tl.length)]), .inl (4, K, .inr (.inr (.inr (.inr Fp))))]) ∧ (∀ j, j < n → g j = S.2.1 1 j) ∧ ∀ j, j < K → ∃ (f pa : Nat), S.2.1 1 (3 + j) = nI f ∧ f < 24 ∧ S.2.2.1 0 f = some (153 + pa) ∧ Fp j = some (153 + pa)) := by
  refine AM.of (pl := pl_N) (by decide) v_good fl_N_ok kl_N_ok nofun (Nat.le_of_ble_eq_true rfl) ?_
  intro p0v e0v s0v m0v args below meth c0v X
  refine AW.run X N_built_d 0 4 rfl ?_
  refine AW.callV (As := [.int (nI 3), .int (nI i), .int (nI m)]) X hE cb_N_146 rfl rfl N_isTold_im N_isTold_se rfl ⟨Nat.le_of_ble_eq_true rfl, Nat.le_of_ble_eq_true rfl⟩ (Nat.le_of_ble_eq_true rfl) ⟨Nat.le_of_ble_eq_true rfl, Nat.le_of_ble_eq_true rfl⟩ (N_built_d.d 4 rfl) (fun v h' q => ?_)
  obtain ⟨rfl, rfl⟩ := q
  refine AW.if_ne X (N_built_d.d 5 rfl) (fun q5 => ?_) (fun q5 => absurd q5 (by decide))
  refine AW.run X N_built_d 13 6 rfl ?_
  rw [hc]
  refine AW.callS (As := [.ref 135, .int (nI n)]) X (JArrays_copyOf1_m 135 96 n (S.2.1 1) rfl hn (by decide) (by rw [x_len]; show 132 ≤ _; omega)) cb_N_150 JArrays_copyOf1_st rfl ⟨Nat.le_of_ble_eq_true rfl, Nat.le_of_ble_eq_true rfl⟩ (Nat.le_of_ble_eq_true rfl) ⟨Nat.le_of_ble_eq_true rfl, Nat.le_of_ble_eq_true rfl⟩ (N_built_d.d 19 rfl) (fun v h' q => ?_)
  obtain ⟨rfl, g, e9, gT⟩ := q
  rw [e9, x_app, x_len]
  clear e9
  refine AW.run X N_built_d 20 2 rfl ?_
  refine AW.tableIn X (N_built_d.d 22 rfl) (by decide) (by decide) (off := 51) (by decide) ?_
  refine AW.new (ci := 7) (fs := [.null, .int 0, .int 0, .null]) (ty := Ty_Z) X rfl L_Z.1 (by decide +kernel) (mt2 (List.mem_of_getElem? (i := 223) rfl)) N_Z I_Z (fun j hj => by
    have : j = 0 ∨ j = 1 ∨ j = 2 ∨ j = 3 := by omega
    rcases this with rfl | rfl | rfl | rfl <;> rfl) (Nat.le_of_ble_eq_true rfl) (Nat.le_of_ble_eq_true rfl) (N_built_d.d 35 rfl) ?_
  rw [x_app, x_len, List.append_assoc, List.length_append]
  refine AW.run X N_built_d 36 5 rfl ?_
  refine AW.callI (As := [.int (nI m), .ref (153 + tl.length), .ref 136]) X (Z_init_m S _ (tl.length + 1) tl.length m K n g l1_s l0_s (by omega) hn hK ((gT 2 (by omega)).trans h2) (fun j hj => by
    obtain ⟨f, pa, ci, fs, z1, z2, z3, z4, z5⟩ := hP j hj
    have := lt_of z4
    exact ⟨f, pa, ci, fs, (gT _ (by omega)).trans z1, z2, z3, by omega, ap_g z4, z5⟩)) cb_N_167 rfl Z_init_im rfl ⟨Nat.le_of_ble_eq_true rfl, Nat.le_of_ble_eq_true rfl⟩ (Nat.le_of_ble_eq_true rfl) ⟨Nat.le_of_ble_eq_true rfl, Nat.le_of_ble_eq_true rfl⟩ (N_built_d.d 41 rfl) (fun v h' q => ?_)
  obtain ⟨rfl, Fp, e9, gF⟩ := q
  rw [e9, l1_t, List.append_assoc, List.length_append]
  clear e9
  exact AW.aret X (some (153 + (tl.length + 1))) (N_built_d.d 42 rfl) (Nat.le_of_ble_eq_true rfl) (Nat.le_of_ble_eq_true rfl) ⟨rfl, g, Fp, rfl, gT, fun j hj => by
    obtain ⟨f, pa, ci, fs, z1, z2, z3, z4, z5, z6⟩ := gF j hj
    exact ⟨f, pa, (gT _ (by omega)).symm.trans z1, z2, z3, z6⟩⟩

set_option maxHeartbeats 4000000 in
set_option maxRecDepth 100000 in
theorem N_builtH_m {l : Launch} {G : ax_G} (S : x_S) (tl : List va_E) (i m n : Nat) (hc : S.1 2 = nI n) (hn : n ≤ 96) (hE : AM l VV G N_isTold_y N_isTold_c 4 (some .boolean) 2 0 0 [.ref 132, .int (nI 4), .int (nI i), .int (nI m)] (x_hC S tl) (fun v h' => v = some (.int (bI true)) ∧ h' = x_hC S tl)) (r : Nat) (hr : S.1 0 = nI r) (hr8 : r ≤ 8192) (hB : ∀ j, j < r → (S.2.1 0 j).toInt8.toInt32 = S.2.1 0 j) (hf0 : S.1 3 = -1) (c : Int) (k0 : Nat) (Q : pP) (hprs : prs (sgS S) r 401 (ws (sgS S) r 0) (qR S) = (c, k0, Q)) (hcz : iZ c ≠ -1) :
    AM l VV G N_built_y N_built_c 5 (some (.object "NumberFunctions$Function")) 8 6 8700 [.ref 132, .int (nI 4), .int (nI i), .int (nI m)] (x_hC S tl) (fun v h' => v = some .null ∧ ∃ g S', h' = x_hC S' (tl ++ [.inl (0, n, .inl g)]) ∧ RDr S S' r ∧ S'.1 3 = iZ c ∧ S'.1 4 = nI k0) := by
  refine AM.of (pl := pl_N) (by decide) v_good fl_N_ok kl_N_ok nofun (Nat.le_of_ble_eq_true rfl) ?_
  intro p0v e0v s0v m0v args below meth c0v X
  refine AW.run X N_built_d 0 4 rfl ?_
  refine AW.callV (As := [.int (nI 4), .int (nI i), .int (nI m)]) X hE cb_N_146 rfl rfl N_isTold_im N_isTold_se rfl ⟨Nat.le_of_ble_eq_true rfl, Nat.le_of_ble_eq_true rfl⟩ (Nat.le_of_ble_eq_true rfl) ⟨Nat.le_of_ble_eq_true rfl, Nat.le_of_ble_eq_true rfl⟩ (N_built_d.d 4 rfl) (fun v h' q => ?_)
  obtain ⟨rfl, rfl⟩ := q
  refine AW.if_ne X (N_built_d.d 5 rfl) (fun q5 => ?_) (fun q5 => absurd q5 (by decide))
  refine AW.run X N_built_d 13 6 rfl ?_
  rw [hc]
  refine AW.callS (As := [.ref 135, .int (nI n)]) X (JArrays_copyOf1_m 135 96 n (S.2.1 1) rfl hn (by decide) (by rw [x_len]; show 132 ≤ _; omega)) cb_N_150 JArrays_copyOf1_st rfl ⟨Nat.le_of_ble_eq_true rfl, Nat.le_of_ble_eq_true rfl⟩ (Nat.le_of_ble_eq_true rfl) ⟨Nat.le_of_ble_eq_true rfl, Nat.le_of_ble_eq_true rfl⟩ (N_built_d.d 19 rfl) (fun v h' q => ?_)
  obtain ⟨rfl, g, e9, gT⟩ := q
  rw [e9, x_app, x_len]
  clear e9
  refine AW.run X N_built_d 20 2 rfl ?_
  refine AW.tableOut X (N_built_d.d 22 rfl) (by decide) ?_
  refine AW.run X N_built_d 43 8 rfl ?_
  rw [hr]
  have hh := R_read_m (l := l) (G := G) S (tl ++ [.inl (0, n, .inl g)]) r hr8 hB
  refine AW.callV (As := [.ref 133, .int (nI r), .ref 140]) X hh cb_N_170 rfl rfl R_read_im R_read_se rfl ⟨Nat.le_of_ble_eq_true rfl, Nat.le_of_ble_eq_true rfl⟩ (Nat.le_of_ble_eq_true rfl) ⟨Nat.le_of_ble_eq_true rfl, Nat.le_of_ble_eq_true rfl⟩ (N_built_d.d 51 rfl) (fun v h' q => ?_)
  obtain ⟨rfl, S', rfl, gR, gq⟩ := q
  rw [hprs] at gq
  have hq : S'.1 3 = iZ c ∧ S'.1 4 = nI k0 := gq.2 (fun z => hcz (by rw [show c = -1 from z]; rfl))
  refine AW.run X N_built_d 52 4 rfl ?_
  refine AW.icmp_eq X (N_built_d.d 56 rfl) (fun q56 => absurd (hq.1.symm.trans q56) hcz) (fun q56 => ?_)
  refine AW.run X N_built_d 57 1 rfl ?_
  refine AW.goto X (N_built_d.d 58 rfl) ?_
  exact AW.aret X none (N_built_d.d 69 rfl) (Nat.le_of_ble_eq_true rfl) (Nat.le_of_ble_eq_true rfl) ⟨rfl, g, S', rfl, gR, hq⟩

set_option maxHeartbeats 4000000 in
set_option maxRecDepth 100000 in
theorem N_builtG_m {l : Launch} {G : ax_G} (S : x_S) (tl : List va_E) (i m n : Nat) (hc : S.1 2 = nI n) (hn : n ≤ 96) (hE : AM l VV G N_isTold_y N_isTold_c 4 (some .boolean) 2 0 0 [.ref 132, .int (nI 4), .int (nI i), .int (nI m)] (x_hC S tl) (fun v h' => v = some (.int (bI true)) ∧ h' = x_hC S tl)) (r : Nat) (hr : S.1 0 = nI r) (hr8 : r ≤ 8192) (hB : ∀ j, j < r → (S.2.1 0 j).toInt8.toInt32 = S.2.1 0 j) (hf0 : S.1 3 = -1) (k0 : Nat) (Q : pP) (hprs : prs (sgS S) r 401 (ws (sgS S) r 0) (qR S) = (-1, k0, Q)) :
    AM l VV G N_built_y N_built_c 5 (some (.object "NumberFunctions$Function")) 8 6 8700 [.ref 132, .int (nI 4), .int (nI i), .int (nI m)] (x_hC S tl) (fun v h' => v = some (.ref (153 + (tl.length + 1))) ∧ ∃ g S' Wf A B C, h' = x_hC S' (tl ++ [.inl (0, n, .inl g), .inr (8, [.int (nI (qn Q)), .ref (153 + (tl.length + 2)), .ref (153 + (tl.length + 3)), .ref (153 + (tl.length + 4)), .ref (153 + (tl.length + 5)), .ref 150, .int (nI i), .int (nI m), .ref (153 + tl.length)]), .inl (5, qn Q, .inr (.inr (.inr (.inr Wf)))), .inl (0, qn Q, .inl A), .inl (0, qn Q, .inl B), .inl (0, qn Q, .inl C)]) ∧ RDr S S' r ∧ (S'.1 3 = S.1 3 ∧ S'.1 4 = S.1 4) ∧ (∀ j, j < n → g j = S.2.1 1 j) ∧ ∀ j, j < qn Q → Wf j = some (qc Q j) ∧ A j = iZ (qm Q j) ∧ B j = nI (qt Q j) ∧ C j = nI (qe Q j)) := by
  refine AM.of (pl := pl_N) (by decide) v_good fl_N_ok kl_N_ok nofun (Nat.le_of_ble_eq_true rfl) ?_
  intro p0v e0v s0v m0v args below meth c0v X
  refine AW.run X N_built_d 0 4 rfl ?_
  refine AW.callV (As := [.int (nI 4), .int (nI i), .int (nI m)]) X hE cb_N_146 rfl rfl N_isTold_im N_isTold_se rfl ⟨Nat.le_of_ble_eq_true rfl, Nat.le_of_ble_eq_true rfl⟩ (Nat.le_of_ble_eq_true rfl) ⟨Nat.le_of_ble_eq_true rfl, Nat.le_of_ble_eq_true rfl⟩ (N_built_d.d 4 rfl) (fun v h' q => ?_)
  obtain ⟨rfl, rfl⟩ := q
  refine AW.if_ne X (N_built_d.d 5 rfl) (fun q5 => ?_) (fun q5 => absurd q5 (by decide))
  refine AW.run X N_built_d 13 6 rfl ?_
  rw [hc]
  refine AW.callS (As := [.ref 135, .int (nI n)]) X (JArrays_copyOf1_m 135 96 n (S.2.1 1) rfl hn (by decide) (by rw [x_len]; show 132 ≤ _; omega)) cb_N_150 JArrays_copyOf1_st rfl ⟨Nat.le_of_ble_eq_true rfl, Nat.le_of_ble_eq_true rfl⟩ (Nat.le_of_ble_eq_true rfl) ⟨Nat.le_of_ble_eq_true rfl, Nat.le_of_ble_eq_true rfl⟩ (N_built_d.d 19 rfl) (fun v h' q => ?_)
  obtain ⟨rfl, g, e9, gT⟩ := q
  rw [e9, x_app, x_len]
  clear e9
  refine AW.run X N_built_d 20 2 rfl ?_
  refine AW.tableOut X (N_built_d.d 22 rfl) (by decide) ?_
  refine AW.run X N_built_d 43 8 rfl ?_
  rw [hr]
  have hh := R_read_m (l := l) (G := G) S (tl ++ [.inl (0, n, .inl g)]) r hr8 hB
  refine AW.callV (As := [.ref 133, .int (nI r), .ref 140]) X hh cb_N_170 rfl rfl R_read_im R_read_se rfl ⟨Nat.le_of_ble_eq_true rfl, Nat.le_of_ble_eq_true rfl⟩ (Nat.le_of_ble_eq_true rfl) ⟨Nat.le_of_ble_eq_true rfl, Nat.le_of_ble_eq_true rfl⟩ (N_built_d.d 51 rfl) (fun v h' q => ?_)
  obtain ⟨rfl, S', rfl, gR, gq⟩ := q
  rw [hprs] at gq
  have hq := gq.1 rfl
  have hPI := prs_prg hprs rfl rfl
  refine AW.run X N_built_d 52 4 rfl ?_
  refine AW.icmp_eq X (N_built_d.d 56 rfl) (fun q56 => ?_) (fun q56 => absurd (hq.1.1.trans hf0) q56)
  refine AW.new (ci := 8) (fs := [.int 0, .null, .null, .null, .null, .null, .int 0, .int 0, .null]) (ty := Ty_G) X rfl L_G.1 (by decide +kernel) (mt3 (List.mem_of_getElem? (i := 126) rfl)) N_G I_G (fun j hj => by
    have : j = 0 ∨ j = 1 ∨ j = 2 ∨ j = 3 ∨ j = 4 ∨ j = 5 ∨ j = 6 ∨ j = 7 ∨ j = 8 := by omega
    rcases this with rfl | rfl | rfl | rfl | rfl | rfl | rfl | rfl | rfl <;> rfl) (Nat.le_of_ble_eq_true rfl) (Nat.le_of_ble_eq_true rfl) (N_built_d.d 59 rfl) ?_
  rw [x_app, x_len, List.append_assoc, List.length_append]
  refine AW.run X N_built_d 60 8 rfl ?_
  have hh2 := G_init_m (l := l) (G := G) S' (tl ++ ([.inl (0, n, .inl g)] ++ [.inr (8, [.int 0, .null, .null, .null, .null, .null, .int 0, .int 0, .null])])) (tl.length + 1) tl.length i m (qn Q) l1_s hPI.2.1.1 hq.2.1.1 (fun j hj => ⟨qc Q j, hq.2.2.2.2.2.2 j hj, by have := hPI.2.1.2.1 j hj; omega⟩)
  refine AW.callI (As := [.int (nI i), .int (nI m), .ref (153 + tl.length), .ref 141, .ref 150]) X hh2 cb_N_176 rfl G_init_im rfl ⟨Nat.le_of_ble_eq_true rfl, Nat.le_of_ble_eq_true rfl⟩ (Nat.le_of_ble_eq_true rfl) ⟨Nat.le_of_ble_eq_true rfl, Nat.le_of_ble_eq_true rfl⟩ (N_built_d.d 68 rfl) (fun v h' q => ?_)
  obtain ⟨rfl, A, B, C, Wf, e9, gF⟩ := q
  rw [e9, l1_t, List.append_assoc, List.length_append]
  clear e9
  exact AW.aret X (some (153 + (tl.length + 1))) (N_built_d.d 69 rfl) (Nat.le_of_ble_eq_true rfl) (Nat.le_of_ble_eq_true rfl) ⟨rfl, g, S', Wf, A, B, C, rfl, gR, hq.1, gT, fun j hj => by
    obtain ⟨z1, z2, z3, z4⟩ := gF j hj
    exact ⟨z1.trans (hq.2.2.2.2.2.2 j hj), z2.trans (hq.2.2.2.1 j), z3.trans (hq.2.2.2.2.1 j), z4.trans (hq.2.2.2.2.2.1 j)⟩⟩

