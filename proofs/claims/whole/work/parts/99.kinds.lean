/-! CONSTRUCTORS of functions, the kinds -/
theorem ap_g {h t : List va_E} {k : Nat} {x : va_E} (e : h[k]? = some x) : (h ++ t)[k]? = some x := by
  rw [List.getElem?_append_left (List.getElem?_eq_some_iff.mp e).1]; exact e
theorem sa_l {h t : List va_E} {k : Nat} {c d : va_E} (e : h[k]? = some c) : (h ++ t).set k d = h.set k d ++ t :=
  List.set_append_left _ _ (List.getElem?_eq_some_iff.mp e).1
theorem fnc {ci : Nat} (h : 5 ≤ ci ∧ ci ≤ 8) : ∃ rc : vw_C, VV.cl[ci]? = some rc ∧ (rc.1 = "NumberFunctions$Function" ∨ (rc.1, "NumberFunctions$Function") ∈ VV.ct) := by
  have : ci = 5 ∨ ci = 6 ∨ ci = 7 ∨ ci = 8 := by omega
  rcases this with rfl | rfl | rfl | rfl
  · exact ⟨_, rfl, Or.inr (List.mem_of_getElem? (i := 7) rfl)⟩
  · exact ⟨_, rfl, Or.inr (List.mem_of_getElem? (i := 5) rfl)⟩
  · exact ⟨_, rfl, Or.inr (List.mem_of_getElem? (i := 8) rfl)⟩
  · exact ⟨_, rfl, Or.inr (List.mem_of_getElem? (i := 6) rfl)⟩

set_option maxHeartbeats 4000000 in
set_option maxRecDepth 100000 in
theorem S_init_m {l : Launch} {G : ax_G} (S : x_S) (tl : List va_E) (a b cb k m wd L : Nat) (T : Nat → Int32) (hA : tl[a]? = some (.inr (5, [.null, .int 0, .null, .null, .null, .int 0, .int 0, .null]))) (hT : tl[b]? = some (.inl (0, L, .inl T))) (hne : a ≠ b) (hL : L ≤ 96) (hk : 5 * k < L) (hw : T (5 * k) = nI wd) :
    AM l VV G S_init_y S_init_c 5 none 2 3 14 [.ref (153 + a), .int (nI k), .int (nI m), .ref (153 + b), .ref (153 + cb)] (x_hC S tl) (fun v h' => v = none ∧ h' = x_hC S (tl.set a (sOb (153 + cb) tl.length (153 + b) k m wd) ++ [.inl (0, 3, .inl (fun _ => 0)), .inl (0, 3, .inl (fun _ => 0)), .inl (2, 8, .inr (.inl (fun _ => 0)))])) := by
  refine AM.of (pl := pi_S) (by decide) v_good fl_S_ok kl_S_ok (fun _ => rfl) (Nat.le_of_ble_eq_true rfl) ?_
  intro p0v e0v s0v m0v args below meth c0v X
  refine AW.run X S_init_d 0 4 rfl ?_
  refine AW.callI (As := [.int (nI k), .int (nI m), .ref (153 + b)]) X (F_initS_m (153 + a) (153 + b) (nI k) (nI m) ((x_tl _ _ a).trans hA) (by show 132 ≤ 153 + _; omega)) cb_S_3 rfl F_init_im rfl ⟨Nat.le_of_ble_eq_true rfl, Nat.le_of_ble_eq_true rfl⟩ (Nat.le_of_ble_eq_true rfl) ⟨Nat.le_of_ble_eq_true rfl, Nat.le_of_ble_eq_true rfl⟩ (S_init_d.d 4 rfl) (fun v h' q => ?_)
  obtain ⟨rfl, e9⟩ := q
  rw [e9, x_set]
  clear e9
  refine AW.run X S_init_d 5 2 rfl ?_
  refine AW.newa (t := 0) (N := 3) (a0 := .inl (fun _ => 0)) (atype := .int) X ac_int rfl (fun cA => rfl) rfl (by omega) (Nat.le_of_ble_eq_true rfl) (Nat.le_of_ble_eq_true rfl) (fun cA U hU => va_nm_int hU) (S_init_d.d 7 rfl) ?_
  rw [x_app, x_len]
  simp only [List.length_append, List.length_set, List.length_singleton, List.append_assoc, Nat.reduceAdd]
  refine AW.putF X ((x_tl _ _ a).trans (ap_g (st_s hA))) (by show 132 ≤ 153 + _; omega) rfl rfl L_S rfl rfl rfl rfl rfl rfl (Nat.le_of_ble_eq_true rfl) (S_init_d.d 8 rfl) ?_
  rw [x_set, sa_l (st_s hA), List.set_set]
  refine AW.run X S_init_d 9 2 rfl ?_
  refine AW.newa (t := 0) (N := 3) (a0 := .inl (fun _ => 0)) (atype := .int) X ac_int rfl (fun cA => rfl) rfl (by omega) (Nat.le_of_ble_eq_true rfl) (Nat.le_of_ble_eq_true rfl) (fun cA U hU => va_nm_int hU) (S_init_d.d 11 rfl) ?_
  rw [x_app, x_len]
  simp only [List.length_append, List.length_set, List.length_singleton, List.append_assoc, Nat.reduceAdd]
  refine AW.putF X ((x_tl _ _ a).trans (ap_g (st_s hA))) (by show 132 ≤ 153 + _; omega) rfl rfl L_S rfl rfl rfl rfl rfl rfl (Nat.le_of_ble_eq_true rfl) (S_init_d.d 12 rfl) ?_
  rw [x_set, sa_l (st_s hA), List.set_set]
  refine AW.run X S_init_d 13 2 rfl ?_
  refine AW.newa (t := 2) (N := 8) (a0 := .inr (.inl (fun _ => 0))) (atype := .long) X ac_long rfl (fun cA => rfl) rfl (by omega) (Nat.le_of_ble_eq_true rfl) (Nat.le_of_ble_eq_true rfl) (fun cA U hU => va_nm_long hU) (S_init_d.d 15 rfl) ?_
  rw [x_app, x_len]
  simp only [List.length_append, List.length_set, List.length_singleton, List.append_assoc, Nat.reduceAdd]
  refine AW.putF X ((x_tl _ _ a).trans (ap_g (st_s hA))) (by show 132 ≤ 153 + _; omega) rfl rfl L_S rfl rfl rfl rfl rfl rfl (Nat.le_of_ble_eq_true rfl) (S_init_d.d 16 rfl) ?_
  rw [x_set, sa_l (st_s hA), List.set_set]
  refine AW.run X S_init_d 17 2 rfl ?_
  refine AW.putF X ((x_tl _ _ a).trans (ap_g (st_s hA))) (by show 132 ≤ 153 + _; omega) rfl rfl L_S rfl rfl rfl rfl rfl rfl (Nat.le_of_ble_eq_true rfl) (S_init_d.d 19 rfl) ?_
  rw [x_set, sa_l (st_s hA), List.set_set]
  refine AW.run X S_init_d 20 5 rfl ?_
  refine AW.iald (j := 5 * k) X ((x_tl _ _ b).trans (ap_g (st_o hT hne))) rfl (pk_mul 5 k) hk (by omega) (S_init_d.d 25 rfl) ?_
  rw [hw]
  refine AW.putF X ((x_tl _ _ a).trans (ap_g (st_s hA))) (by show 132 ≤ 153 + _; omega) rfl rfl L_S rfl rfl rfl rfl rfl rfl (Nat.le_of_ble_eq_true rfl) (S_init_d.d 26 rfl) ?_
  rw [x_set, sa_l (st_s hA), List.set_set]
  exact AW.vret X (S_init_d.d 27 rfl) (Nat.le_of_ble_eq_true rfl) (Nat.le_of_ble_eq_true rfl) ⟨rfl, rfl⟩

set_option maxHeartbeats 4000000 in
set_option maxRecDepth 100000 in
theorem Z_init_m {l : Launch} {G : ax_G} (S : x_S) (tl : List va_E) (a b m K L : Nat) (T : Nat → Int32) (hA : tl[a]? = some (.inr (7, [.null, .int 0, .int 0, .null]))) (hT : tl[b]? = some (.inl (0, L, .inl T))) (hne : a ≠ b) (hL : L ≤ 96) (hK : 1 ≤ K ∧ K ≤ 8 ∧ 3 + K ≤ L) (h2 : T 2 = nI K) (hP : ∀ j, j < K → ∃ (f pa ci : Nat) (fs : List Value), T (3 + j) = nI f ∧ f < 24 ∧ S.2.2.1 0 f = some (153 + pa) ∧ a ≠ pa ∧ tl[pa]? = some (.inr (ci, fs)) ∧ 5 ≤ ci ∧ ci ≤ 8) :
    AM l VV G Z_init_y Z_init_c 5 none 2 1 8 [.ref (153 + a), .int (nI m), .ref (153 + b), .ref 136] (x_hC S tl) (fun v h' => v = none ∧ ∃ Fp, h' = x_hC S ((tl.set a (.inr (7, [.ref (153 + tl.length), .int (nI 1), .int (nI m), .ref (153 + b)]))) ++ [.inl (4, K, .inr (.inr (.inr (.inr Fp))))]) ∧ ∀ j, j < K → ∃ (f pa ci : Nat) (fs : List Value), T (3 + j) = nI f ∧ f < 24 ∧ S.2.2.1 0 f = some (153 + pa) ∧ a ≠ pa ∧ tl[pa]? = some (.inr (ci, fs)) ∧ Fp j = some (153 + pa)) := by
  refine AM.of (pl := pi_Z) (by decide) v_good fl_Z_ok kl_Z_ok (fun _ => rfl) (Nat.le_of_ble_eq_true rfl) ?_
  intro p0v e0v s0v m0v args below meth c0v X
  refine AW.run X Z_init_d 0 4 rfl ?_
  refine AW.callI (As := [.int (nI 1), .int (nI m), .ref (153 + b)]) X (F_initZ_m (153 + a) (153 + b) (nI 1) (nI m) ((x_tl _ _ a).trans hA) (by show 132 ≤ 153 + _; omega)) cb_Z_3 rfl F_init_im rfl ⟨Nat.le_of_ble_eq_true rfl, Nat.le_of_ble_eq_true rfl⟩ (Nat.le_of_ble_eq_true rfl) ⟨Nat.le_of_ble_eq_true rfl, Nat.le_of_ble_eq_true rfl⟩ (Z_init_d.d 4 rfl) (fun v h' q => ?_)
  obtain ⟨rfl, e9⟩ := q
  rw [e9, x_set]
  clear e9
  refine AW.run X Z_init_d 5 3 rfl ?_
  refine AW.iald (j := 2) X ((x_tl _ _ b).trans (st_o hT hne)) rfl rfl (by omega) (by omega) (Z_init_d.d 8 rfl) ?_
  rw [h2]
  refine AW.anew (t := 4) (N := K) X (mt2 (List.mem_of_getElem? (i := 229) rfl)) (by decide) rfl rfl (by omega) (Nat.le_of_ble_eq_true rfl) (by show 0 + K ≤ 8; omega) (Z_init_d.d 9 rfl) ?_
  rw [x_app, x_len]
  simp only [List.length_append, List.length_set, List.length_singleton, List.append_assoc, Nat.reduceAdd]
  refine AW.putF X ((x_tl _ _ a).trans (ap_g (st_s hA))) (by show 132 ≤ 153 + _; omega) rfl rfl L_Z rfl rfl rfl rfl rfl rfl (Nat.le_of_ble_eq_true rfl) (Z_init_d.d 10 rfl) ?_
  rw [x_set, sa_l (st_s hA), List.set_set]
  refine AW.run X Z_init_d 11 2 rfl ?_
  have L20 : ∀ (t1 j : Nat) (Fp : Nat → Option Nat), j ≤ K → K - j < t1 → (∀ i, i < j → ∃ (f pa ci : Nat) (fs : List Value), T (3 + i) = nI f ∧ f < 24 ∧ S.2.2.1 0 f = some (153 + pa) ∧ a ≠ pa ∧ tl[pa]? = some (.inr (ci, fs)) ∧ Fp i = some (153 + pa)) → AW p0v l e0v (ax_R 2 1 8) s0v m0v args below meth c0v VV G 5 (x_hC S ((tl.set a (.inr (7, [.ref (153 + tl.length), .int (nI 1), .int (nI m), .ref (153 + b)]))) ++ [.inl (4, K, .inr (.inr (.inr (.inr Fp))))])) 1 (0 + K) (MQ below (ax_Q VV G (fun v h' => v = none ∧ ∃ Fp, h' = x_hC S ((tl.set a (.inr (7, [.ref (153 + tl.length), .int (nI 1), .int (nI m), .ref (153 + b)]))) ++ [.inl (4, K, .inr (.inr (.inr (.inr Fp))))]) ∧ ∀ j, j < K → ∃ (f pa ci : Nat) (fs : List Value), T (3 + j) = nI f ∧ f < 24 ∧ S.2.2.1 0 f = some (153 + pa) ∧ a ≠ pa ∧ tl[pa]? = some (.inr (ci, fs)) ∧ Fp j = some (153 + pa))) args s0v 1 8 (fun q => G.bs ≤ q)) 20 [(4, .int (nI j)), (0, .ref (153 + a)), (2, .ref (153 + b)), (3, .ref 136)] [] := by
    intro t1
    induction t1 with
    | zero => intro j Fp a1 a2; exact absurd a2 (by omega)
    | succ t1 ih1 =>
      intro j Fp a1 a2 a3
      refine AW.run X Z_init_d 13 2 rfl ?_
      refine AW.get X ((x_tl _ _ a).trans (ap_g (st_s hA))) rfl rfl (Z_init_d.d 15 rfl) ?_
      have hG : ((tl.set a (.inr (7, [.ref (153 + tl.length), .int (nI 1), .int (nI m), .ref (153 + b)]))) ++ [.inl (4, K, .inr (.inr (.inr (.inr Fp))))])[tl.length]? = some (.inl (4, K, .inr (.inr (.inr (.inr Fp))))) := (by have z := List.getElem?_append_right (l₁ := (tl.set a (.inr (7, [.ref (153 + tl.length), .int (nI 1), .int (nI m), .ref (153 + b)])))) (l₂ := [.inl (4, K, .inr (.inr (.inr (.inr Fp))))]) (i := tl.length) (by rw [List.length_set]; omega); rw [List.length_set, Nat.sub_self] at z; exact z)
      refine AW.alen X ((x_tl _ _ tl.length).trans hG) rfl rfl (Z_init_d.d 16 rfl) ?_
      refine AW.icmp_ge X (Z_init_d.d 17 rfl) (fun q17 => ?_) (fun q17 => ?_)
      · exact AW.vret X (Z_init_d.d 31 rfl) (Nat.le_of_ble_eq_true rfl) (by omega) ⟨rfl, Fp, rfl, fun i hi => a3 i (by have := cge q17; omega)⟩
      · have hj : j < K := clt q17
        refine AW.run X Z_init_d 18 1 rfl ?_
        refine AW.get X ((x_tl _ _ a).trans (ap_g (st_s hA))) rfl rfl (Z_init_d.d 19 rfl) ?_
        refine AW.run X Z_init_d 20 6 rfl ?_
        refine AW.iald (j := 3 + j) X ((x_tl _ _ b).trans (ap_g (st_o hT hne))) rfl (by rw [show (Int32.ofInt 3 : Int32) = nI 3 from rfl, nI_add]) (by omega) (by omega) (Z_init_d.d 26 rfl) ?_
        obtain ⟨f, pa, ci, fs, z1, z2, z3, z4, z5, z6⟩ := hP j hj
        rw [z1]
        refine AW.crl0 (j := f) X rfl z2 (Z_init_d.d 27 rfl) ?_
        rw [z3]
        obtain ⟨rc, w1, w2⟩ := fnc z6
        refine AW.aast (E := "NumberFunctions$Function") (j := j) X ((x_tl _ _ tl.length).trans hG) rfl (by show 132 ≤ 153 + _; omega) ((x_tl _ _ pa).trans (ap_g (st_o z5 z4))) w1 w2 rfl hj (by omega) (Z_init_d.d 28 rfl) ?_
        rw [x_set, List.set_append_right _ _ (by rw [List.length_set]; omega), List.length_set, Nat.sub_self]
        refine AW.run X Z_init_d 29 1 rfl ?_
        refine AW.goto X (Z_init_d.d 30 rfl) ?_
        rw [nI_o1]
        exact ih1 (j + 1) _ (by omega) (by omega) (fun i hi => by
          by_cases z : i = j
          · subst z; exact ⟨f, pa, ci, fs, z1, z2, z3, z4, z5, if_pos rfl⟩
          · obtain ⟨f, pa, ci, fs, y1, y2, y3, y4, y5, y6⟩ := a3 i (by omega)
            exact ⟨f, pa, ci, fs, y1, y2, y3, y4, y5, (if_neg z).trans y6⟩)
  refine AW.pk [0, 1, 3, 4] rfl ?_
  exact L20 (K + 1) 0 _ (by omega) (by omega) (fun j hj => absurd hj (Nat.not_lt_zero j))

