set_option maxHeartbeats 4000000 in
set_option maxRecDepth 100000 in
theorem G_init_m {l : Launch} {G : ax_G} (S : x_S) (tl : List va_E) (a b i m n : Nat) (hA : tl[a]? = some (.inr (8, [.int 0, .null, .null, .null, .null, .null, .int 0, .int 0, .null]))) (h4 : n ≤ 400) (hc : S.1 5 = nI n) (hW : ∀ j, j < n → ∃ w, S.2.2.1 1 j = some w ∧ w < 39) :
    AM l VV G G_init_y G_init_c 6 none 2 4 1600 [.ref (153 + a), .int (nI i), .int (nI m), .ref (153 + b), .ref 141, .ref 150] (x_hC S tl) (fun v h' => v = none ∧ ∃ (A B C : Nat → Int32) (Wf : Nat → Option Nat), h' = x_hC S (tl.set a (.inr (8, [.int (nI n), .ref (153 + tl.length), .ref (153 + (tl.length + 1)), .ref (153 + (tl.length + 2)), .ref (153 + (tl.length + 3)), .ref 150, .int (nI i), .int (nI m), .ref (153 + b)])) ++ [.inl (5, n, .inr (.inr (.inr (.inr Wf)))), .inl (0, n, .inl A), .inl (0, n, .inl B), .inl (0, n, .inl C)]) ∧ ∀ j, j < n → Wf j = S.2.2.1 1 j ∧ A j = S.2.1 5 j ∧ B j = S.2.1 6 j ∧ C j = S.2.1 7 j) := by
  refine AM.of (pl := pi_G) (by decide) v_good fl_G_ok kl_G_ok (fun _ => rfl) (Nat.le_of_ble_eq_true rfl) ?_
  intro p0v e0v s0v m0v args below meth c0v X
  refine AW.run X G_init_d 0 4 rfl ?_
  refine AW.callI (As := [.int (nI i), .int (nI m), .ref (153 + b)]) X (F_initG_m (153 + a) (153 + b) (nI i) (nI m) ((x_tl _ _ a).trans hA) (by show 132 ≤ 153 + _; omega)) cb_G_3 rfl F_init_im rfl ⟨Nat.le_of_ble_eq_true rfl, Nat.le_of_ble_eq_true rfl⟩ (Nat.le_of_ble_eq_true rfl) ⟨Nat.le_of_ble_eq_true rfl, Nat.le_of_ble_eq_true rfl⟩ (G_init_d.d 4 rfl) (fun v h' q => ?_)
  obtain ⟨rfl, e9⟩ := q
  rw [e9, x_set]
  clear e9
  refine AW.run X G_init_d 5 2 rfl ?_
  refine AW.putF X ((x_tl _ _ a).trans (st_s hA)) (by show 132 ≤ 153 + _; omega) rfl rfl L_G rfl rfl rfl rfl rfl rfl (Nat.le_of_ble_eq_true rfl) (G_init_d.d 7 rfl) ?_
  rw [x_set, List.set_set]
  refine AW.run X G_init_d 8 2 rfl ?_
  refine AW.run X G_init_d 10 1 rfl ?_
  rw [hc]
  refine AW.putF X ((x_tl _ _ a).trans (st_s hA)) (by show 132 ≤ 153 + _; omega) rfl rfl L_G rfl rfl rfl rfl rfl rfl (Nat.le_of_ble_eq_true rfl) (G_init_d.d 11 rfl) ?_
  rw [x_set, List.set_set]
  refine AW.run X G_init_d 12 2 rfl ?_
  refine AW.get X ((x_tl _ _ a).trans (st_s hA)) rfl rfl (G_init_d.d 14 rfl) ?_
  refine AW.anew (t := 5) (N := n) X (mt3 (List.mem_of_getElem? (i := 132) rfl)) (by decide) rfl rfl (by omega) (Nat.le_of_ble_eq_true rfl) (by show 0 + n ≤ 1600; omega) (G_init_d.d 15 rfl) ?_
  rw [x_app, x_len]
  simp only [List.length_append, List.length_set, List.length_singleton, List.append_assoc, Nat.reduceAdd]
  refine AW.putF X ((x_tl _ _ a).trans (ap_g (st_s hA))) (by show 132 ≤ 153 + _; omega) rfl rfl L_G rfl rfl rfl rfl rfl rfl (Nat.le_of_ble_eq_true rfl) (G_init_d.d 16 rfl) ?_
  rw [x_set, sa_l (st_s hA), List.set_set]
  have hG : ∀ {c : va_E} {fs : va_E}, (tl.set a fs ++ [c])[tl.length]? = some c := fun {c fs} => (by rw [List.getElem?_append_right (by rw [List.length_set]; omega), List.length_set, Nat.sub_self]; rfl)
  refine AW.run X G_init_d 17 4 rfl ?_
  refine AW.get X ((x_tl _ _ a).trans (ap_g (st_s hA))) rfl rfl (G_init_d.d 21 rfl) ?_
  refine AW.run X G_init_d 22 2 rfl ?_
  refine AW.get X ((x_tl _ _ a).trans (ap_g (st_s hA))) rfl rfl (G_init_d.d 24 rfl) ?_
  refine AW.copyq (sp := 0) (dp := 0) (n := n) (ci := 13) X rfl ((x_tl _ _ tl.length).trans hG) rfl rfl (by show 132 ≤ 153 + _; omega) rfl rfl ac_G_29 rfl rfl rfl (by omega) (by omega) (by decide) (by omega) (fun j hj y hy => by
    obtain ⟨w, w1, w2⟩ := hW j hj
    rw [Nat.zero_add, w1] at hy
    rw [← Option.some.inj hy]
    obtain ⟨fs, w3, -⟩ := x_w S _ w w2
    exact ⟨fs, w3⟩) (Nat.le_of_ble_eq_true rfl) (Nat.le_of_ble_eq_true rfl) (Nat.le_of_ble_eq_true rfl) (G_init_d.d 25 rfl) ?_
  rw [x_set, List.set_append_right _ _ (by rw [List.length_set]; omega), List.length_set, Nat.sub_self]
  refine AW.run X G_init_d 26 4 rfl ?_
  refine AW.get X ((x_tl _ _ a).trans (ap_g (st_s hA))) rfl rfl (G_init_d.d 30 rfl) ?_
  refine AW.callS (As := [.ref 143, .int (nI n)]) X (JArrays_copyOf1_m 143 400 n (S.2.1 5) rfl h4 (by decide) (by rw [x_len]; show 132 ≤ _; omega)) cb_G_39 JArrays_copyOf1_st rfl ⟨Nat.le_of_ble_eq_true rfl, Nat.le_of_ble_eq_true rfl⟩ (Nat.le_of_ble_eq_true rfl) ⟨(Nat.le_of_ble_eq_true rfl), by show 0 + n + 400 ≤ 1600; omega⟩ (G_init_d.d 31 rfl) (fun v h' q => ?_)
  obtain ⟨rfl, A, e9, gA⟩ := q
  rw [e9, x_app, x_len]
  clear e9
  simp only [List.length_append, List.length_set, List.length_singleton, List.append_assoc, Nat.reduceAdd]
  refine AW.putF X ((x_tl _ _ a).trans (ap_g (st_s hA))) (by show 132 ≤ 153 + _; omega) rfl rfl L_G rfl rfl rfl rfl rfl rfl (Nat.le_of_ble_eq_true rfl) (G_init_d.d 32 rfl) ?_
  rw [x_set, sa_l (st_s hA), List.set_set]
  refine AW.run X G_init_d 33 4 rfl ?_
  refine AW.get X ((x_tl _ _ a).trans (ap_g (st_s hA))) rfl rfl (G_init_d.d 37 rfl) ?_
  refine AW.callS (As := [.ref 144, .int (nI n)]) X (JArrays_copyOf1_m 144 400 n (S.2.1 6) rfl h4 (by decide) (by rw [x_len]; show 132 ≤ _; omega)) cb_G_39 JArrays_copyOf1_st rfl ⟨Nat.le_of_ble_eq_true rfl, Nat.le_of_ble_eq_true rfl⟩ (Nat.le_of_ble_eq_true rfl) ⟨(Nat.le_of_ble_eq_true rfl), by show 0 + n + 400 + 400 ≤ 1600; omega⟩ (G_init_d.d 38 rfl) (fun v h' q => ?_)
  obtain ⟨rfl, B, e9, gB⟩ := q
  rw [e9, x_app, x_len]
  clear e9
  simp only [List.length_append, List.length_set, List.length_singleton, List.append_assoc, Nat.reduceAdd]
  refine AW.putF X ((x_tl _ _ a).trans (ap_g (st_s hA))) (by show 132 ≤ 153 + _; omega) rfl rfl L_G rfl rfl rfl rfl rfl rfl (Nat.le_of_ble_eq_true rfl) (G_init_d.d 39 rfl) ?_
  rw [x_set, sa_l (st_s hA), List.set_set]
  refine AW.run X G_init_d 40 4 rfl ?_
  refine AW.get X ((x_tl _ _ a).trans (ap_g (st_s hA))) rfl rfl (G_init_d.d 44 rfl) ?_
  refine AW.callS (As := [.ref 145, .int (nI n)]) X (JArrays_copyOf1_m 145 400 n (S.2.1 7) rfl h4 (by decide) (by rw [x_len]; show 132 ≤ _; omega)) cb_G_39 JArrays_copyOf1_st rfl ⟨Nat.le_of_ble_eq_true rfl, Nat.le_of_ble_eq_true rfl⟩ (Nat.le_of_ble_eq_true rfl) ⟨(Nat.le_of_ble_eq_true rfl), by show 0 + n + 800 + 400 ≤ 1600; omega⟩ (G_init_d.d 45 rfl) (fun v h' q => ?_)
  obtain ⟨rfl, C, e9, gC⟩ := q
  rw [e9, x_app, x_len]
  clear e9
  simp only [List.length_append, List.length_set, List.length_singleton, List.append_assoc, Nat.reduceAdd]
  refine AW.putF X ((x_tl _ _ a).trans (ap_g (st_s hA))) (by show 132 ≤ 153 + _; omega) rfl rfl L_G rfl rfl rfl rfl rfl rfl (Nat.le_of_ble_eq_true rfl) (G_init_d.d 46 rfl) ?_
  rw [x_set, sa_l (st_s hA), List.set_set]
  exact AW.vret X (G_init_d.d 47 rfl) (Nat.le_of_ble_eq_true rfl) (by show 0 + n + 400 + 400 + 400 ≤ 1600; omega) ⟨rfl, A, B, C, _, rfl, fun j hj => ⟨by unfold va_cpy; rw [if_pos ⟨by omega, by omega⟩, Nat.zero_add, Nat.sub_zero], gA j hj, gB j hj, gC j hj⟩⟩

