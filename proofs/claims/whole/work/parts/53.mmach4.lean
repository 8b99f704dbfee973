theorem pn2_c {n : Nat} {u : Nat → Int} {t : Nat → Bool} {f : Int → Int → Bool} (h : pn2 n t ≠ -1) : (pcmp n u t true f).1 = pn2 n t := by
  unfold pcmp
  rcases pn2_v n t with z | z | z
  · rw [if_pos z.2, z.1]; rfl
  · rw [if_neg (by omega), z.1, if_pos (by
      by_cases w : t (n - 2) = t (n - 1)
      · refine Or.inr ⟨rfl, ?_⟩
        rcases z.2.2 with y | y
        · exact y
        · rw [w]; exact y
      · exact Or.inl w)]
    rfl
  · exact absurd z.1 h
theorem pa2_b2 {n : Nat} {u : Nat → Int} {t : Nat → Bool} {r : pR} (hn : 2 ≤ n) (h : pa2 n u t ≠ -1) : (if pwh2 n u t ≠ -1 then pe n u t (pwh2 n u t) else r).1 = pa2 n u t := by
  have z : ¬ n < 2 := by omega
  unfold pa2 at h ⊢
  rw [if_neg z] at h ⊢
  rw [if_pos h]; rfl
theorem pa1_b2 {n : Nat} {u : Nat → Int} {t : Nat → Bool} {r : pR} (hn : 1 ≤ n) (h : pa1 n u t ≠ -1) : (if pwh1 n u t ≠ -1 then pe n u t (pwh1 n u t) else r).1 = pa1 n u t := by
  have z : ¬ n < 1 := by omega
  unfold pa1 at h ⊢
  rw [if_neg z] at h ⊢
  rw [if_pos h]; rfl
theorem lZ_dw {a : Int} (ha : zN a) (h : a % 65536 = 0) : lZ a / (65536 : Int64) = lZ (a / 65536) := by rw [show (65536 : Int64) = lZ 65536 from rfl, lZ_div (zN_L ha) ⟨by decide, by decide⟩ (Or.inr (by decide)), tdiv_w h]
theorem zI_q {a : Int} (ha : zN a) : zI (a / 65536) := ⟨by have := zN_q ha; omega, by have := zN_q ha; omega⟩
theorem zL_i6 (x : Int32) : zL (x.toInt * 65536) := ⟨by have := (zI_i x).1; omega, by have := (zI_i x).2; omega⟩
theorem jl_and {a b : Int} (ha : zI a) (hb : zI b) : lZ a &&& lZ b = lZ (iZ a &&& iZ b).toInt := by rw [← i_l, Int32.toInt64_and, iZ_l ha, iZ_l hb]
theorem jl_or {a b : Int} (ha : zI a) (hb : zI b) : lZ a ||| lZ b = lZ (iZ a ||| iZ b).toInt := by rw [← i_l, Int32.toInt64_or, iZ_l ha, iZ_l hb]
theorem jl_xor {a b : Int} (ha : zI a) (hb : zI b) : lZ a ^^^ lZ b = lZ (iZ a ^^^ iZ b).toInt := by rw [← i_l, Int32.toInt64_xor, iZ_l ha, iZ_l hb]
theorem jo_and {a b : Int} (ha : a = 0 ∨ a = 1) (hb : b = 0 ∨ b = 1) : iZ a &&& iZ b ≠ 0 ↔ lZ a &&& lZ b = Int64.ofNat ((1 : Fin 2) : Nat) := by
  rcases ha with rfl | rfl <;> rcases hb with rfl | rfl <;> decide
theorem jo_or {a b : Int} (ha : a = 0 ∨ a = 1) (hb : b = 0 ∨ b = 1) : iZ a ||| iZ b ≠ 0 ↔ lZ a ||| lZ b = Int64.ofNat ((1 : Fin 2) : Nat) := by
  rcases ha with rfl | rfl <;> rcases hb with rfl | rfl <;> decide
theorem jo_xor {a b : Int} (ha : a = 0 ∨ a = 1) (hb : b = 0 ∨ b = 1) : iZ a ^^^ iZ b ≠ 0 ↔ lZ a ^^^ lZ b = Int64.ofNat ((1 : Fin 2) : Nat) := by
  rcases ha with rfl | rfl <;> rcases hb with rfl | rfl <;> decide
set_option maxHeartbeats 4000000 in
set_option maxRecDepth 100000 in
theorem M_compare21_m {l : Launch} {G : ax_G} (S : x_S) (M : x_M) (tl : List va_E) (n : Nat) (u : Nat → Int) (t : Nat → Bool) (hG : gd M) (hW : WS n u t) (hM : MS M n u t) (num : Int) :
    AM l VV G M_compare_y M_compare_c 7 none 5 0 0 [.ref 153, .int 15] (x_hM S M tl) (fun v h' => v = none ∧ mp S tl M (pS 21 num n u t) h') := by
  refine AM.of (pl := pl_M) (by decide) v_good fl_M_ok kl_M_ok nofun (Nat.le_of_ble_eq_true rfl) ?_
  intro p e s m args below meth c X
  refine AW.run X M_compare_d 0 2 rfl ?_
  refine AW.icmp_ge X (M_compare_d.d 2 rfl) (fun q2 => absurd q2 (by decide)) (fun q2 => ?_)
  refine AW.run X M_compare_d 3 1 rfl ?_
  refine AW.goto X (M_compare_d.d 4 rfl) ?_
  refine AW.run X M_compare_d 6 2 rfl ?_
  refine AW.if_eq X (M_compare_d.d 8 rfl) (fun q8 => absurd q8 (by decide)) (fun q8 => ?_)
  refine AW.run X M_compare_d 9 2 rfl ?_
  refine AW.callV (As := [.int (nI 2)]) X (M_has2_m S M tl n u t hG hW hM) cb_M_363 rfl rfl M_has_im M_has_se rfl ⟨Nat.le_of_ble_eq_true rfl, Nat.le_of_ble_eq_true rfl⟩ (Nat.le_of_ble_eq_true rfl) ⟨Nat.le_of_ble_eq_true rfl, Nat.le_of_ble_eq_true rfl⟩ (M_compare_d.d 11 rfl) (fun v h' q => ?_)
  rcases q with ⟨hc, rfl, rfl⟩ | ⟨hc, rfl, rfl⟩
  · have hn := ph_o hc
    refine AW.if_eq X (M_compare_d.d 12 rfl) (fun q12 => absurd q12 (by decide)) (fun q12 => ?_)
    refine AW.goto X (M_compare_d.d 13 rfl) ?_
    refine AW.run X M_compare_d 19 1 rfl ?_
    refine AW.if_eq X (M_compare_d.d 20 rfl) (fun q20 => absurd q20 (by decide)) (fun q20 => ?_)
    refine AW.run X M_compare_d 21 6 rfl ?_
    refine AW.ml13 (j := n - 1) X (hM.i (k := 1) (by omega)) (by have := hW.1; omega) (M_compare_d.d 27 rfl) ?_
    rw [(hM.2 (n - 1) (by omega)).2]
    refine AW.run X M_compare_d 28 6 rfl ?_
    refine AW.ml13 (j := n - 2) X (hM.i (k := 2) (by omega)) (by have := hW.1; omega) (M_compare_d.d 34 rfl) ?_
    rw [(hM.2 (n - 2) (by omega)).2]
    refine AW.icmp_eq X (M_compare_d.d 35 rfl) (fun q35 => ?_) (fun q35 => ?_)
    · refine AW.run X M_compare_d 40 1 rfl ?_
      refine AW.callV (As := []) X (M_take_m S M tl n u t hW.1 hM (by omega)) cb_M_392 rfl rfl M_take_im M_take_se rfl ⟨Nat.le_of_ble_eq_true rfl, Nat.le_of_ble_eq_true rfl⟩ (Nat.le_of_ble_eq_true rfl) ⟨Nat.le_of_ble_eq_true rfl, Nat.le_of_ble_eq_true rfl⟩ (M_compare_d.d 41 rfl) (fun v h' q => ?_)
      obtain ⟨rfl, rfl⟩ := q
      refine AW.run X M_compare_d 42 2 rfl ?_
      refine AW.callV (As := []) X (M_take_m S (y_i M 9 (nI (n - 1))) tl (n - 1) u t (by have := hW.1; omega) hM.tk (by omega)) cb_M_392 rfl rfl M_take_im M_take_se rfl ⟨Nat.le_of_ble_eq_true rfl, Nat.le_of_ble_eq_true rfl⟩ (Nat.le_of_ble_eq_true rfl) ⟨Nat.le_of_ble_eq_true rfl, Nat.le_of_ble_eq_true rfl⟩ (M_compare_d.d 44 rfl) (fun v h' q => ?_)
      obtain ⟨rfl, rfl⟩ := q
      rw [show n - 1 - 1 = n - 2 by omega]
      refine AW.run X M_compare_d 45 2 rfl ?_
      refine AW.tableIn X (M_compare_d.d 47 rfl) (by decide) (by decide) (off := 36) (by decide) ?_
      refine AW.run X M_compare_d 48 4 rfl ?_
      refine AW.if_ne X (M_compare_d.d 52 rfl) (fun q52 => ?_) (fun q52 => ?_)
      · refine AW.run X M_compare_d 55 1 rfl ?_
        rw [show Int32.ofInt 0 = bI (decide (u (n - 2) = u (n - 1))) from by rw [decide_eq_false (p := u (n - 2) = u (n - 1)) (fun z => q52 ((lc_eq (a := u (n - 2)) (b := u (n - 1)) (zN_L (hW.2 (n - 2) (by omega)).1) (zN_L (hW.2 (n - 1) (by omega)).1)).mpr z))]; rfl]
        refine AW.callV (As := [.int (bI (decide (u (n - 2) = u (n - 1))))]) X (M_putTruth_m S (y_i (y_i M 9 (nI (n - 1))) 9 (nI (n - 2))) tl (n - 2) u t (decide (u (n - 2) = u (n - 1))) (gd_i (by decide) (gd_i (by decide) hG)) (by have := hW.1; omega) (ms_tk2 hM)) cb_M_426 rfl rfl M_putTruth_im M_putTruth_se rfl ⟨Nat.le_of_ble_eq_true rfl, Nat.le_of_ble_eq_true rfl⟩ (Nat.le_of_ble_eq_true rfl) ⟨Nat.le_of_ble_eq_true rfl, Nat.le_of_ble_eq_true rfl⟩ (M_compare_d.d 56 rfl) (fun v h' q => ?_)
        obtain ⟨rfl, q⟩ := q
        refine AW.goto X (M_compare_d.d 57 rfl) ?_
        exact AW.vret X (M_compare_d.d 107 rfl) (Nat.le_of_ble_eq_true rfl) (Nat.le_of_ble_eq_true rfl) ⟨rfl, mp_tr ((MFr.d _ _).trans (MFr.d _ _)) (by rw [pS_21]; unfold pcmp; rw [if_neg (by omega), if_neg (fun z => z.elim (fun z => z (bI_inj.mp q35).symm) (fun z => Bool.false_ne_true z.1))]; exact pg_sh (by omega) hn hW.1) q⟩
      · refine AW.run X M_compare_d 53 1 rfl ?_
        refine AW.goto X (M_compare_d.d 54 rfl) ?_
        rw [show Int32.ofInt 1 = bI (decide (u (n - 2) = u (n - 1))) from by rw [decide_eq_true (p := u (n - 2) = u (n - 1)) ((lc_eq (a := u (n - 2)) (b := u (n - 1)) (zN_L (hW.2 (n - 2) (by omega)).1) (zN_L (hW.2 (n - 1) (by omega)).1)).mp q52)]; rfl]
        refine AW.callV (As := [.int (bI (decide (u (n - 2) = u (n - 1))))]) X (M_putTruth_m S (y_i (y_i M 9 (nI (n - 1))) 9 (nI (n - 2))) tl (n - 2) u t (decide (u (n - 2) = u (n - 1))) (gd_i (by decide) (gd_i (by decide) hG)) (by have := hW.1; omega) (ms_tk2 hM)) cb_M_426 rfl rfl M_putTruth_im M_putTruth_se rfl ⟨Nat.le_of_ble_eq_true rfl, Nat.le_of_ble_eq_true rfl⟩ (Nat.le_of_ble_eq_true rfl) ⟨Nat.le_of_ble_eq_true rfl, Nat.le_of_ble_eq_true rfl⟩ (M_compare_d.d 56 rfl) (fun v h' q => ?_)
        obtain ⟨rfl, q⟩ := q
        refine AW.goto X (M_compare_d.d 57 rfl) ?_
        exact AW.vret X (M_compare_d.d 107 rfl) (Nat.le_of_ble_eq_true rfl) (Nat.le_of_ble_eq_true rfl) ⟨rfl, mp_tr ((MFr.d _ _).trans (MFr.d _ _)) (by rw [pS_21]; unfold pcmp; rw [if_neg (by omega), if_neg (fun z => z.elim (fun z => z (bI_inj.mp q35).symm) (fun z => Bool.false_ne_true z.1))]; exact pg_sh (by omega) hn hW.1) q⟩
    · refine AW.run X M_compare_d 36 2 rfl ?_
      refine AW.callV (As := [.int (iZ 10)]) X (M_failG_m S M tl 10 hG) cb_M_356 rfl rfl M_fail_im M_fail_se rfl ⟨Nat.le_of_ble_eq_true rfl, Nat.le_of_ble_eq_true rfl⟩ (Nat.le_of_ble_eq_true rfl) ⟨Nat.le_of_ble_eq_true rfl, Nat.le_of_ble_eq_true rfl⟩ (M_compare_d.d 38 rfl) (fun v h' q => ?_)
      obtain ⟨rfl, rfl⟩ := q
      exact AW.vret X (M_compare_d.d 39 rfl) (Nat.le_of_ble_eq_true rfl) (Nat.le_of_ble_eq_true rfl) ⟨rfl, mp_bad (by rw [pS_21]; unfold pcmp; rw [if_neg (by omega), if_pos (Or.inl (fun z => q35 (by rw [z])))]; rfl) (by decide)⟩
  · have hb := ph_n hc
    refine AW.if_eq X (M_compare_d.d 12 rfl) (fun q12 => ?_) (fun q12 => absurd q12 (by decide))
    exact AW.vret X (M_compare_d.d 18 rfl) (Nat.le_of_ble_eq_true rfl) (Nat.le_of_ble_eq_true rfl) ⟨rfl, mp_bad (by rw [pS_21]; unfold pcmp; rw [if_pos hb.2, hb.1]; rfl) hc⟩

set_option maxHeartbeats 4000000 in
set_option maxRecDepth 100000 in
theorem M_compare22_m {l : Launch} {G : ax_G} (S : x_S) (M : x_M) (tl : List va_E) (n : Nat) (u : Nat → Int) (t : Nat → Bool) (hG : gd M) (hW : WS n u t) (hM : MS M n u t) (num : Int) :
    AM l VV G M_compare_y M_compare_c 7 none 5 0 0 [.ref 153, .int 16] (x_hM S M tl) (fun v h' => v = none ∧ mp S tl M (pS 22 num n u t) h') := by
  refine AM.of (pl := pl_M) (by decide) v_good fl_M_ok kl_M_ok nofun (Nat.le_of_ble_eq_true rfl) ?_
  intro p e s m args below meth c X
  refine AW.run X M_compare_d 0 2 rfl ?_
  refine AW.icmp_ge X (M_compare_d.d 2 rfl) (fun q2 => absurd q2 (by decide)) (fun q2 => ?_)
  refine AW.run X M_compare_d 3 1 rfl ?_
  refine AW.goto X (M_compare_d.d 4 rfl) ?_
  refine AW.run X M_compare_d 6 2 rfl ?_
  refine AW.if_eq X (M_compare_d.d 8 rfl) (fun q8 => absurd q8 (by decide)) (fun q8 => ?_)
  refine AW.run X M_compare_d 9 2 rfl ?_
  refine AW.callV (As := [.int (nI 2)]) X (M_has2_m S M tl n u t hG hW hM) cb_M_363 rfl rfl M_has_im M_has_se rfl ⟨Nat.le_of_ble_eq_true rfl, Nat.le_of_ble_eq_true rfl⟩ (Nat.le_of_ble_eq_true rfl) ⟨Nat.le_of_ble_eq_true rfl, Nat.le_of_ble_eq_true rfl⟩ (M_compare_d.d 11 rfl) (fun v h' q => ?_)
  rcases q with ⟨hc, rfl, rfl⟩ | ⟨hc, rfl, rfl⟩
  · have hn := ph_o hc
    refine AW.if_eq X (M_compare_d.d 12 rfl) (fun q12 => absurd q12 (by decide)) (fun q12 => ?_)
    refine AW.goto X (M_compare_d.d 13 rfl) ?_
    refine AW.run X M_compare_d 19 1 rfl ?_
    refine AW.if_eq X (M_compare_d.d 20 rfl) (fun q20 => absurd q20 (by decide)) (fun q20 => ?_)
    refine AW.run X M_compare_d 21 6 rfl ?_
    refine AW.ml13 (j := n - 1) X (hM.i (k := 1) (by omega)) (by have := hW.1; omega) (M_compare_d.d 27 rfl) ?_
    rw [(hM.2 (n - 1) (by omega)).2]
    refine AW.run X M_compare_d 28 6 rfl ?_
    refine AW.ml13 (j := n - 2) X (hM.i (k := 2) (by omega)) (by have := hW.1; omega) (M_compare_d.d 34 rfl) ?_
    rw [(hM.2 (n - 2) (by omega)).2]
    refine AW.icmp_eq X (M_compare_d.d 35 rfl) (fun q35 => ?_) (fun q35 => ?_)
    · refine AW.run X M_compare_d 40 1 rfl ?_
      refine AW.callV (As := []) X (M_take_m S M tl n u t hW.1 hM (by omega)) cb_M_392 rfl rfl M_take_im M_take_se rfl ⟨Nat.le_of_ble_eq_true rfl, Nat.le_of_ble_eq_true rfl⟩ (Nat.le_of_ble_eq_true rfl) ⟨Nat.le_of_ble_eq_true rfl, Nat.le_of_ble_eq_true rfl⟩ (M_compare_d.d 41 rfl) (fun v h' q => ?_)
      obtain ⟨rfl, rfl⟩ := q
      refine AW.run X M_compare_d 42 2 rfl ?_
      refine AW.callV (As := []) X (M_take_m S (y_i M 9 (nI (n - 1))) tl (n - 1) u t (by have := hW.1; omega) hM.tk (by omega)) cb_M_392 rfl rfl M_take_im M_take_se rfl ⟨Nat.le_of_ble_eq_true rfl, Nat.le_of_ble_eq_true rfl⟩ (Nat.le_of_ble_eq_true rfl) ⟨Nat.le_of_ble_eq_true rfl, Nat.le_of_ble_eq_true rfl⟩ (M_compare_d.d 44 rfl) (fun v h' q => ?_)
      obtain ⟨rfl, rfl⟩ := q
      rw [show n - 1 - 1 = n - 2 by omega]
      refine AW.run X M_compare_d 45 2 rfl ?_
      refine AW.tableIn X (M_compare_d.d 47 rfl) (by decide) (by decide) (off := 55) (by decide) ?_
      refine AW.run X M_compare_d 58 4 rfl ?_
      refine AW.if_eq X (M_compare_d.d 62 rfl) (fun q62 => ?_) (fun q62 => ?_)
      · refine AW.run X M_compare_d 65 1 rfl ?_
        rw [show Int32.ofInt 0 = bI (decide (u (n - 2) ≠ u (n - 1))) from by rw [decide_eq_false (p := u (n - 2) ≠ u (n - 1)) (fun z => z ((lc_eq (a := u (n - 2)) (b := u (n - 1)) (zN_L (hW.2 (n - 2) (by omega)).1) (zN_L (hW.2 (n - 1) (by omega)).1)).mp q62))]; rfl]
        refine AW.callV (As := [.int (bI (decide (u (n - 2) ≠ u (n - 1))))]) X (M_putTruth_m S (y_i (y_i M 9 (nI (n - 1))) 9 (nI (n - 2))) tl (n - 2) u t (decide (u (n - 2) ≠ u (n - 1))) (gd_i (by decide) (gd_i (by decide) hG)) (by have := hW.1; omega) (ms_tk2 hM)) cb_M_426 rfl rfl M_putTruth_im M_putTruth_se rfl ⟨Nat.le_of_ble_eq_true rfl, Nat.le_of_ble_eq_true rfl⟩ (Nat.le_of_ble_eq_true rfl) ⟨Nat.le_of_ble_eq_true rfl, Nat.le_of_ble_eq_true rfl⟩ (M_compare_d.d 66 rfl) (fun v h' q => ?_)
        obtain ⟨rfl, q⟩ := q
        refine AW.goto X (M_compare_d.d 67 rfl) ?_
        exact AW.vret X (M_compare_d.d 107 rfl) (Nat.le_of_ble_eq_true rfl) (Nat.le_of_ble_eq_true rfl) ⟨rfl, mp_tr ((MFr.d _ _).trans (MFr.d _ _)) (by rw [pS_22]; unfold pcmp; rw [if_neg (by omega), if_neg (fun z => z.elim (fun z => z (bI_inj.mp q35).symm) (fun z => Bool.false_ne_true z.1))]; exact pg_sh (by omega) hn hW.1) q⟩
      · refine AW.run X M_compare_d 63 1 rfl ?_
        refine AW.goto X (M_compare_d.d 64 rfl) ?_
        rw [show Int32.ofInt 1 = bI (decide (u (n - 2) ≠ u (n - 1))) from by rw [decide_eq_true (p := u (n - 2) ≠ u (n - 1)) (fun z => q62 ((lc_eq (a := u (n - 2)) (b := u (n - 1)) (zN_L (hW.2 (n - 2) (by omega)).1) (zN_L (hW.2 (n - 1) (by omega)).1)).mpr z))]; rfl]
        refine AW.callV (As := [.int (bI (decide (u (n - 2) ≠ u (n - 1))))]) X (M_putTruth_m S (y_i (y_i M 9 (nI (n - 1))) 9 (nI (n - 2))) tl (n - 2) u t (decide (u (n - 2) ≠ u (n - 1))) (gd_i (by decide) (gd_i (by decide) hG)) (by have := hW.1; omega) (ms_tk2 hM)) cb_M_426 rfl rfl M_putTruth_im M_putTruth_se rfl ⟨Nat.le_of_ble_eq_true rfl, Nat.le_of_ble_eq_true rfl⟩ (Nat.le_of_ble_eq_true rfl) ⟨Nat.le_of_ble_eq_true rfl, Nat.le_of_ble_eq_true rfl⟩ (M_compare_d.d 66 rfl) (fun v h' q => ?_)
        obtain ⟨rfl, q⟩ := q
        refine AW.goto X (M_compare_d.d 67 rfl) ?_
        exact AW.vret X (M_compare_d.d 107 rfl) (Nat.le_of_ble_eq_true rfl) (Nat.le_of_ble_eq_true rfl) ⟨rfl, mp_tr ((MFr.d _ _).trans (MFr.d _ _)) (by rw [pS_22]; unfold pcmp; rw [if_neg (by omega), if_neg (fun z => z.elim (fun z => z (bI_inj.mp q35).symm) (fun z => Bool.false_ne_true z.1))]; exact pg_sh (by omega) hn hW.1) q⟩
    · refine AW.run X M_compare_d 36 2 rfl ?_
      refine AW.callV (As := [.int (iZ 10)]) X (M_failG_m S M tl 10 hG) cb_M_356 rfl rfl M_fail_im M_fail_se rfl ⟨Nat.le_of_ble_eq_true rfl, Nat.le_of_ble_eq_true rfl⟩ (Nat.le_of_ble_eq_true rfl) ⟨Nat.le_of_ble_eq_true rfl, Nat.le_of_ble_eq_true rfl⟩ (M_compare_d.d 38 rfl) (fun v h' q => ?_)
      obtain ⟨rfl, rfl⟩ := q
      exact AW.vret X (M_compare_d.d 39 rfl) (Nat.le_of_ble_eq_true rfl) (Nat.le_of_ble_eq_true rfl) ⟨rfl, mp_bad (by rw [pS_22]; unfold pcmp; rw [if_neg (by omega), if_pos (Or.inl (fun z => q35 (by rw [z])))]; rfl) (by decide)⟩
  · have hb := ph_n hc
    refine AW.if_eq X (M_compare_d.d 12 rfl) (fun q12 => ?_) (fun q12 => absurd q12 (by decide))
    exact AW.vret X (M_compare_d.d 18 rfl) (Nat.le_of_ble_eq_true rfl) (Nat.le_of_ble_eq_true rfl) ⟨rfl, mp_bad (by rw [pS_22]; unfold pcmp; rw [if_pos hb.2, hb.1]; rfl) hc⟩

set_option maxHeartbeats 4000000 in
set_option maxRecDepth 100000 in
theorem M_compare23_m {l : Launch} {G : ax_G} (S : x_S) (M : x_M) (tl : List va_E) (n : Nat) (u : Nat → Int) (t : Nat → Bool) (hG : gd M) (hW : WS n u t) (hM : MS M n u t) (num : Int) :
    AM l VV G M_compare_y M_compare_c 7 none 5 0 0 [.ref 153, .int 17] (x_hM S M tl) (fun v h' => v = none ∧ mp S tl M (pS 23 num n u t) h') := by
  refine AM.of (pl := pl_M) (by decide) v_good fl_M_ok kl_M_ok nofun (Nat.le_of_ble_eq_true rfl) ?_
  intro p e s m args below meth c X
  refine AW.run X M_compare_d 0 2 rfl ?_
  refine AW.icmp_ge X (M_compare_d.d 2 rfl) (fun q2 => ?_) (fun q2 => absurd q2 (by decide))
  refine AW.run X M_compare_d 5 3 rfl ?_
  refine AW.if_eq X (M_compare_d.d 8 rfl) (fun q8 => ?_) (fun q8 => absurd q8 (by decide))
  refine AW.run X M_compare_d 14 2 rfl ?_
  refine AW.callV (As := [.int (nI 2)]) X (M_areNumbers2_m S M tl n u t hG hW hM) cb_M_366 rfl rfl M_areNumbers_im M_areNumbers_se rfl ⟨Nat.le_of_ble_eq_true rfl, Nat.le_of_ble_eq_true rfl⟩ (Nat.le_of_ble_eq_true rfl) ⟨Nat.le_of_ble_eq_true rfl, Nat.le_of_ble_eq_true rfl⟩ (M_compare_d.d 16 rfl) (fun v h' q => ?_)
  rcases q with ⟨hc, rfl, rfl⟩ | ⟨hc, rfl, rfl⟩
  · obtain ⟨hn, ht2, ht1⟩ := pn2_o hc
    refine AW.if_ne X (M_compare_d.d 17 rfl) (fun q17 => ?_) (fun q17 => absurd q17 (by decide))
    refine AW.run X M_compare_d 19 1 rfl ?_
    refine AW.if_eq X (M_compare_d.d 20 rfl) (fun q20 => ?_) (fun q20 => absurd q20 (by decide))
    refine AW.run X M_compare_d 40 1 rfl ?_
    refine AW.callV (As := []) X (M_take_m S M tl n u t hW.1 hM (by omega)) cb_M_392 rfl rfl M_take_im M_take_se rfl ⟨Nat.le_of_ble_eq_true rfl, Nat.le_of_ble_eq_true rfl⟩ (Nat.le_of_ble_eq_true rfl) ⟨Nat.le_of_ble_eq_true rfl, Nat.le_of_ble_eq_true rfl⟩ (M_compare_d.d 41 rfl) (fun v h' q => ?_)
    obtain ⟨rfl, rfl⟩ := q
    refine AW.run X M_compare_d 42 2 rfl ?_
    refine AW.callV (As := []) X (M_take_m S (y_i M 9 (nI (n - 1))) tl (n - 1) u t (by have := hW.1; omega) hM.tk (by omega)) cb_M_392 rfl rfl M_take_im M_take_se rfl ⟨Nat.le_of_ble_eq_true rfl, Nat.le_of_ble_eq_true rfl⟩ (Nat.le_of_ble_eq_true rfl) ⟨Nat.le_of_ble_eq_true rfl, Nat.le_of_ble_eq_true rfl⟩ (M_compare_d.d 44 rfl) (fun v h' q => ?_)
    obtain ⟨rfl, rfl⟩ := q
    rw [show n - 1 - 1 = n - 2 by omega]
    refine AW.run X M_compare_d 45 2 rfl ?_
    refine AW.tableIn X (M_compare_d.d 47 rfl) (by decide) (by decide) (off := 74) (by decide) ?_
    refine AW.run X M_compare_d 68 4 rfl ?_
    refine AW.if_le X (M_compare_d.d 72 rfl) (fun q72 => ?_) (fun q72 => ?_)
    · refine AW.run X M_compare_d 75 1 rfl ?_
      rw [show Int32.ofInt 0 = bI (decide (u (n - 1) < u (n - 2))) from by rw [decide_eq_false (p := u (n - 1) < u (n - 2)) (Int.not_lt.mpr ((lc_le (a := u (n - 2)) (b := u (n - 1)) (zN_L (hW.2 (n - 2) (by omega)).1) (zN_L (hW.2 (n - 1) (by omega)).1)).mp q72))]; rfl]
      refine AW.callV (As := [.int (bI (decide (u (n - 1) < u (n - 2))))]) X (M_putTruth_m S (y_i (y_i M 9 (nI (n - 1))) 9 (nI (n - 2))) tl (n - 2) u t (decide (u (n - 1) < u (n - 2))) (gd_i (by decide) (gd_i (by decide) hG)) (by have := hW.1; omega) (ms_tk2 hM)) cb_M_426 rfl rfl M_putTruth_im M_putTruth_se rfl ⟨Nat.le_of_ble_eq_true rfl, Nat.le_of_ble_eq_true rfl⟩ (Nat.le_of_ble_eq_true rfl) ⟨Nat.le_of_ble_eq_true rfl, Nat.le_of_ble_eq_true rfl⟩ (M_compare_d.d 76 rfl) (fun v h' q => ?_)
      obtain ⟨rfl, q⟩ := q
      refine AW.goto X (M_compare_d.d 77 rfl) ?_
      exact AW.vret X (M_compare_d.d 107 rfl) (Nat.le_of_ble_eq_true rfl) (Nat.le_of_ble_eq_true rfl) ⟨rfl, mp_tr ((MFr.d _ _).trans (MFr.d _ _)) (by rw [pS_23]; unfold pcmp; rw [if_neg (by omega), if_neg (fun z => z.elim (fun z => z (by rw [ht1, ht2])) (fun z => by rw [ht2] at z; exact Bool.false_ne_true z.2))]; exact pg_sh (by omega) hn hW.1) q⟩
    · refine AW.run X M_compare_d 73 1 rfl ?_
      refine AW.goto X (M_compare_d.d 74 rfl) ?_
      rw [show Int32.ofInt 1 = bI (decide (u (n - 1) < u (n - 2))) from by rw [decide_eq_true (p := u (n - 1) < u (n - 2)) (Int.not_le.mp (mt (lc_le (a := u (n - 2)) (b := u (n - 1)) (zN_L (hW.2 (n - 2) (by omega)).1) (zN_L (hW.2 (n - 1) (by omega)).1)).mpr q72))]; rfl]
      refine AW.callV (As := [.int (bI (decide (u (n - 1) < u (n - 2))))]) X (M_putTruth_m S (y_i (y_i M 9 (nI (n - 1))) 9 (nI (n - 2))) tl (n - 2) u t (decide (u (n - 1) < u (n - 2))) (gd_i (by decide) (gd_i (by decide) hG)) (by have := hW.1; omega) (ms_tk2 hM)) cb_M_426 rfl rfl M_putTruth_im M_putTruth_se rfl ⟨Nat.le_of_ble_eq_true rfl, Nat.le_of_ble_eq_true rfl⟩ (Nat.le_of_ble_eq_true rfl) ⟨Nat.le_of_ble_eq_true rfl, Nat.le_of_ble_eq_true rfl⟩ (M_compare_d.d 76 rfl) (fun v h' q => ?_)
      obtain ⟨rfl, q⟩ := q
      refine AW.goto X (M_compare_d.d 77 rfl) ?_
      exact AW.vret X (M_compare_d.d 107 rfl) (Nat.le_of_ble_eq_true rfl) (Nat.le_of_ble_eq_true rfl) ⟨rfl, mp_tr ((MFr.d _ _).trans (MFr.d _ _)) (by rw [pS_23]; unfold pcmp; rw [if_neg (by omega), if_neg (fun z => z.elim (fun z => z (by rw [ht1, ht2])) (fun z => by rw [ht2] at z; exact Bool.false_ne_true z.2))]; exact pg_sh (by omega) hn hW.1) q⟩
  · refine AW.if_ne X (M_compare_d.d 17 rfl) (fun q17 => absurd q17 (by decide)) (fun q17 => ?_)
    exact AW.vret X (M_compare_d.d 18 rfl) (Nat.le_of_ble_eq_true rfl) (Nat.le_of_ble_eq_true rfl) ⟨rfl, mp_bad (by rw [pS_23]; exact pn2_c hc) hc⟩

set_option maxHeartbeats 4000000 in
set_option maxRecDepth 100000 in
theorem M_compare24_m {l : Launch} {G : ax_G} (S : x_S) (M : x_M) (tl : List va_E) (n : Nat) (u : Nat → Int) (t : Nat → Bool) (hG : gd M) (hW : WS n u t) (hM : MS M n u t) (num : Int) :
    AM l VV G M_compare_y M_compare_c 7 none 5 0 0 [.ref 153, .int 18] (x_hM S M tl) (fun v h' => v = none ∧ mp S tl M (pS 24 num n u t) h') := by
  refine AM.of (pl := pl_M) (by decide) v_good fl_M_ok kl_M_ok nofun (Nat.le_of_ble_eq_true rfl) ?_
  intro p e s m args below meth c X
  refine AW.run X M_compare_d 0 2 rfl ?_
  refine AW.icmp_ge X (M_compare_d.d 2 rfl) (fun q2 => ?_) (fun q2 => absurd q2 (by decide))
  refine AW.run X M_compare_d 5 3 rfl ?_
  refine AW.if_eq X (M_compare_d.d 8 rfl) (fun q8 => ?_) (fun q8 => absurd q8 (by decide))
  refine AW.run X M_compare_d 14 2 rfl ?_
  refine AW.callV (As := [.int (nI 2)]) X (M_areNumbers2_m S M tl n u t hG hW hM) cb_M_366 rfl rfl M_areNumbers_im M_areNumbers_se rfl ⟨Nat.le_of_ble_eq_true rfl, Nat.le_of_ble_eq_true rfl⟩ (Nat.le_of_ble_eq_true rfl) ⟨Nat.le_of_ble_eq_true rfl, Nat.le_of_ble_eq_true rfl⟩ (M_compare_d.d 16 rfl) (fun v h' q => ?_)
  rcases q with ⟨hc, rfl, rfl⟩ | ⟨hc, rfl, rfl⟩
  · obtain ⟨hn, ht2, ht1⟩ := pn2_o hc
    refine AW.if_ne X (M_compare_d.d 17 rfl) (fun q17 => ?_) (fun q17 => absurd q17 (by decide))
    refine AW.run X M_compare_d 19 1 rfl ?_
    refine AW.if_eq X (M_compare_d.d 20 rfl) (fun q20 => ?_) (fun q20 => absurd q20 (by decide))
    refine AW.run X M_compare_d 40 1 rfl ?_
    refine AW.callV (As := []) X (M_take_m S M tl n u t hW.1 hM (by omega)) cb_M_392 rfl rfl M_take_im M_take_se rfl ⟨Nat.le_of_ble_eq_true rfl, Nat.le_of_ble_eq_true rfl⟩ (Nat.le_of_ble_eq_true rfl) ⟨Nat.le_of_ble_eq_true rfl, Nat.le_of_ble_eq_true rfl⟩ (M_compare_d.d 41 rfl) (fun v h' q => ?_)
    obtain ⟨rfl, rfl⟩ := q
    refine AW.run X M_compare_d 42 2 rfl ?_
    refine AW.callV (As := []) X (M_take_m S (y_i M 9 (nI (n - 1))) tl (n - 1) u t (by have := hW.1; omega) hM.tk (by omega)) cb_M_392 rfl rfl M_take_im M_take_se rfl ⟨Nat.le_of_ble_eq_true rfl, Nat.le_of_ble_eq_true rfl⟩ (Nat.le_of_ble_eq_true rfl) ⟨Nat.le_of_ble_eq_true rfl, Nat.le_of_ble_eq_true rfl⟩ (M_compare_d.d 44 rfl) (fun v h' q => ?_)
    obtain ⟨rfl, rfl⟩ := q
    rw [show n - 1 - 1 = n - 2 by omega]
    refine AW.run X M_compare_d 45 2 rfl ?_
    refine AW.tableIn X (M_compare_d.d 47 rfl) (by decide) (by decide) (off := 93) (by decide) ?_
    refine AW.run X M_compare_d 78 4 rfl ?_
    refine AW.if_lt X (M_compare_d.d 82 rfl) (fun q82 => ?_) (fun q82 => ?_)
    · refine AW.run X M_compare_d 85 1 rfl ?_
      rw [show Int32.ofInt 0 = bI (decide (u (n - 1) ≤ u (n - 2))) from by rw [decide_eq_false (p := u (n - 1) ≤ u (n - 2)) (Int.not_le.mpr ((lc_lt (a := u (n - 2)) (b := u (n - 1)) (zN_L (hW.2 (n - 2) (by omega)).1) (zN_L (hW.2 (n - 1) (by omega)).1)).mp q82))]; rfl]
      refine AW.callV (As := [.int (bI (decide (u (n - 1) ≤ u (n - 2))))]) X (M_putTruth_m S (y_i (y_i M 9 (nI (n - 1))) 9 (nI (n - 2))) tl (n - 2) u t (decide (u (n - 1) ≤ u (n - 2))) (gd_i (by decide) (gd_i (by decide) hG)) (by have := hW.1; omega) (ms_tk2 hM)) cb_M_426 rfl rfl M_putTruth_im M_putTruth_se rfl ⟨Nat.le_of_ble_eq_true rfl, Nat.le_of_ble_eq_true rfl⟩ (Nat.le_of_ble_eq_true rfl) ⟨Nat.le_of_ble_eq_true rfl, Nat.le_of_ble_eq_true rfl⟩ (M_compare_d.d 86 rfl) (fun v h' q => ?_)
      obtain ⟨rfl, q⟩ := q
      refine AW.goto X (M_compare_d.d 87 rfl) ?_
      exact AW.vret X (M_compare_d.d 107 rfl) (Nat.le_of_ble_eq_true rfl) (Nat.le_of_ble_eq_true rfl) ⟨rfl, mp_tr ((MFr.d _ _).trans (MFr.d _ _)) (by rw [pS_24]; unfold pcmp; rw [if_neg (by omega), if_neg (fun z => z.elim (fun z => z (by rw [ht1, ht2])) (fun z => by rw [ht2] at z; exact Bool.false_ne_true z.2))]; exact pg_sh (by omega) hn hW.1) q⟩
    · refine AW.run X M_compare_d 83 1 rfl ?_
      refine AW.goto X (M_compare_d.d 84 rfl) ?_
      rw [show Int32.ofInt 1 = bI (decide (u (n - 1) ≤ u (n - 2))) from by rw [decide_eq_true (p := u (n - 1) ≤ u (n - 2)) (Int.not_lt.mp (mt (lc_lt (a := u (n - 2)) (b := u (n - 1)) (zN_L (hW.2 (n - 2) (by omega)).1) (zN_L (hW.2 (n - 1) (by omega)).1)).mpr q82))]; rfl]
      refine AW.callV (As := [.int (bI (decide (u (n - 1) ≤ u (n - 2))))]) X (M_putTruth_m S (y_i (y_i M 9 (nI (n - 1))) 9 (nI (n - 2))) tl (n - 2) u t (decide (u (n - 1) ≤ u (n - 2))) (gd_i (by decide) (gd_i (by decide) hG)) (by have := hW.1; omega) (ms_tk2 hM)) cb_M_426 rfl rfl M_putTruth_im M_putTruth_se rfl ⟨Nat.le_of_ble_eq_true rfl, Nat.le_of_ble_eq_true rfl⟩ (Nat.le_of_ble_eq_true rfl) ⟨Nat.le_of_ble_eq_true rfl, Nat.le_of_ble_eq_true rfl⟩ (M_compare_d.d 86 rfl) (fun v h' q => ?_)
      obtain ⟨rfl, q⟩ := q
      refine AW.goto X (M_compare_d.d 87 rfl) ?_
      exact AW.vret X (M_compare_d.d 107 rfl) (Nat.le_of_ble_eq_true rfl) (Nat.le_of_ble_eq_true rfl) ⟨rfl, mp_tr ((MFr.d _ _).trans (MFr.d _ _)) (by rw [pS_24]; unfold pcmp; rw [if_neg (by omega), if_neg (fun z => z.elim (fun z => z (by rw [ht1, ht2])) (fun z => by rw [ht2] at z; exact Bool.false_ne_true z.2))]; exact pg_sh (by omega) hn hW.1) q⟩
  · refine AW.if_ne X (M_compare_d.d 17 rfl) (fun q17 => absurd q17 (by decide)) (fun q17 => ?_)
    exact AW.vret X (M_compare_d.d 18 rfl) (Nat.le_of_ble_eq_true rfl) (Nat.le_of_ble_eq_true rfl) ⟨rfl, mp_bad (by rw [pS_24]; exact pn2_c hc) hc⟩

set_option maxHeartbeats 4000000 in
set_option maxRecDepth 100000 in
theorem M_compare25_m {l : Launch} {G : ax_G} (S : x_S) (M : x_M) (tl : List va_E) (n : Nat) (u : Nat → Int) (t : Nat → Bool) (hG : gd M) (hW : WS n u t) (hM : MS M n u t) (num : Int) :
    AM l VV G M_compare_y M_compare_c 7 none 5 0 0 [.ref 153, .int 19] (x_hM S M tl) (fun v h' => v = none ∧ mp S tl M (pS 25 num n u t) h') := by
  refine AM.of (pl := pl_M) (by decide) v_good fl_M_ok kl_M_ok nofun (Nat.le_of_ble_eq_true rfl) ?_
  intro p e s m args below meth c X
  refine AW.run X M_compare_d 0 2 rfl ?_
  refine AW.icmp_ge X (M_compare_d.d 2 rfl) (fun q2 => ?_) (fun q2 => absurd q2 (by decide))
  refine AW.run X M_compare_d 5 3 rfl ?_
  refine AW.if_eq X (M_compare_d.d 8 rfl) (fun q8 => ?_) (fun q8 => absurd q8 (by decide))
  refine AW.run X M_compare_d 14 2 rfl ?_
  refine AW.callV (As := [.int (nI 2)]) X (M_areNumbers2_m S M tl n u t hG hW hM) cb_M_366 rfl rfl M_areNumbers_im M_areNumbers_se rfl ⟨Nat.le_of_ble_eq_true rfl, Nat.le_of_ble_eq_true rfl⟩ (Nat.le_of_ble_eq_true rfl) ⟨Nat.le_of_ble_eq_true rfl, Nat.le_of_ble_eq_true rfl⟩ (M_compare_d.d 16 rfl) (fun v h' q => ?_)
  rcases q with ⟨hc, rfl, rfl⟩ | ⟨hc, rfl, rfl⟩
  · obtain ⟨hn, ht2, ht1⟩ := pn2_o hc
    refine AW.if_ne X (M_compare_d.d 17 rfl) (fun q17 => ?_) (fun q17 => absurd q17 (by decide))
    refine AW.run X M_compare_d 19 1 rfl ?_
    refine AW.if_eq X (M_compare_d.d 20 rfl) (fun q20 => ?_) (fun q20 => absurd q20 (by decide))
    refine AW.run X M_compare_d 40 1 rfl ?_
    refine AW.callV (As := []) X (M_take_m S M tl n u t hW.1 hM (by omega)) cb_M_392 rfl rfl M_take_im M_take_se rfl ⟨Nat.le_of_ble_eq_true rfl, Nat.le_of_ble_eq_true rfl⟩ (Nat.le_of_ble_eq_true rfl) ⟨Nat.le_of_ble_eq_true rfl, Nat.le_of_ble_eq_true rfl⟩ (M_compare_d.d 41 rfl) (fun v h' q => ?_)
    obtain ⟨rfl, rfl⟩ := q
    refine AW.run X M_compare_d 42 2 rfl ?_
    refine AW.callV (As := []) X (M_take_m S (y_i M 9 (nI (n - 1))) tl (n - 1) u t (by have := hW.1; omega) hM.tk (by omega)) cb_M_392 rfl rfl M_take_im M_take_se rfl ⟨Nat.le_of_ble_eq_true rfl, Nat.le_of_ble_eq_true rfl⟩ (Nat.le_of_ble_eq_true rfl) ⟨Nat.le_of_ble_eq_true rfl, Nat.le_of_ble_eq_true rfl⟩ (M_compare_d.d 44 rfl) (fun v h' q => ?_)
    obtain ⟨rfl, rfl⟩ := q
    rw [show n - 1 - 1 = n - 2 by omega]
    refine AW.run X M_compare_d 45 2 rfl ?_
    refine AW.tableIn X (M_compare_d.d 47 rfl) (by decide) (by decide) (off := 112) (by decide) ?_
    refine AW.run X M_compare_d 88 4 rfl ?_
    refine AW.if_ge X (M_compare_d.d 92 rfl) (fun q92 => ?_) (fun q92 => ?_)
    · refine AW.run X M_compare_d 95 1 rfl ?_
      rw [show Int32.ofInt 0 = bI (decide (u (n - 2) < u (n - 1))) from by rw [decide_eq_false (p := u (n - 2) < u (n - 1)) (Int.not_lt.mpr ((lc_ge (a := u (n - 2)) (b := u (n - 1)) (zN_L (hW.2 (n - 2) (by omega)).1) (zN_L (hW.2 (n - 1) (by omega)).1)).mp q92))]; rfl]
      refine AW.callV (As := [.int (bI (decide (u (n - 2) < u (n - 1))))]) X (M_putTruth_m S (y_i (y_i M 9 (nI (n - 1))) 9 (nI (n - 2))) tl (n - 2) u t (decide (u (n - 2) < u (n - 1))) (gd_i (by decide) (gd_i (by decide) hG)) (by have := hW.1; omega) (ms_tk2 hM)) cb_M_426 rfl rfl M_putTruth_im M_putTruth_se rfl ⟨Nat.le_of_ble_eq_true rfl, Nat.le_of_ble_eq_true rfl⟩ (Nat.le_of_ble_eq_true rfl) ⟨Nat.le_of_ble_eq_true rfl, Nat.le_of_ble_eq_true rfl⟩ (M_compare_d.d 96 rfl) (fun v h' q => ?_)
      obtain ⟨rfl, q⟩ := q
      refine AW.goto X (M_compare_d.d 97 rfl) ?_
      exact AW.vret X (M_compare_d.d 107 rfl) (Nat.le_of_ble_eq_true rfl) (Nat.le_of_ble_eq_true rfl) ⟨rfl, mp_tr ((MFr.d _ _).trans (MFr.d _ _)) (by rw [pS_25]; unfold pcmp; rw [if_neg (by omega), if_neg (fun z => z.elim (fun z => z (by rw [ht1, ht2])) (fun z => by rw [ht2] at z; exact Bool.false_ne_true z.2))]; exact pg_sh (by omega) hn hW.1) q⟩
    · refine AW.run X M_compare_d 93 1 rfl ?_
      refine AW.goto X (M_compare_d.d 94 rfl) ?_
      rw [show Int32.ofInt 1 = bI (decide (u (n - 2) < u (n - 1))) from by rw [decide_eq_true (p := u (n - 2) < u (n - 1)) (Int.not_le.mp (mt (lc_ge (a := u (n - 2)) (b := u (n - 1)) (zN_L (hW.2 (n - 2) (by omega)).1) (zN_L (hW.2 (n - 1) (by omega)).1)).mpr q92))]; rfl]
      refine AW.callV (As := [.int (bI (decide (u (n - 2) < u (n - 1))))]) X (M_putTruth_m S (y_i (y_i M 9 (nI (n - 1))) 9 (nI (n - 2))) tl (n - 2) u t (decide (u (n - 2) < u (n - 1))) (gd_i (by decide) (gd_i (by decide) hG)) (by have := hW.1; omega) (ms_tk2 hM)) cb_M_426 rfl rfl M_putTruth_im M_putTruth_se rfl ⟨Nat.le_of_ble_eq_true rfl, Nat.le_of_ble_eq_true rfl⟩ (Nat.le_of_ble_eq_true rfl) ⟨Nat.le_of_ble_eq_true rfl, Nat.le_of_ble_eq_true rfl⟩ (M_compare_d.d 96 rfl) (fun v h' q => ?_)
      obtain ⟨rfl, q⟩ := q
      refine AW.goto X (M_compare_d.d 97 rfl) ?_
      exact AW.vret X (M_compare_d.d 107 rfl) (Nat.le_of_ble_eq_true rfl) (Nat.le_of_ble_eq_true rfl) ⟨rfl, mp_tr ((MFr.d _ _).trans (MFr.d _ _)) (by rw [pS_25]; unfold pcmp; rw [if_neg (by omega), if_neg (fun z => z.elim (fun z => z (by rw [ht1, ht2])) (fun z => by rw [ht2] at z; exact Bool.false_ne_true z.2))]; exact pg_sh (by omega) hn hW.1) q⟩
  · refine AW.if_ne X (M_compare_d.d 17 rfl) (fun q17 => absurd q17 (by decide)) (fun q17 => ?_)
    exact AW.vret X (M_compare_d.d 18 rfl) (Nat.le_of_ble_eq_true rfl) (Nat.le_of_ble_eq_true rfl) ⟨rfl, mp_bad (by rw [pS_25]; exact pn2_c hc) hc⟩

set_option maxHeartbeats 4000000 in
set_option maxRecDepth 100000 in
theorem M_compare26_m {l : Launch} {G : ax_G} (S : x_S) (M : x_M) (tl : List va_E) (n : Nat) (u : Nat → Int) (t : Nat → Bool) (hG : gd M) (hW : WS n u t) (hM : MS M n u t) (num : Int) :
    AM l VV G M_compare_y M_compare_c 7 none 5 0 0 [.ref 153, .int 20] (x_hM S M tl) (fun v h' => v = none ∧ mp S tl M (pS 26 num n u t) h') := by
  refine AM.of (pl := pl_M) (by decide) v_good fl_M_ok kl_M_ok nofun (Nat.le_of_ble_eq_true rfl) ?_
  intro p e s m args below meth c X
  refine AW.run X M_compare_d 0 2 rfl ?_
  refine AW.icmp_ge X (M_compare_d.d 2 rfl) (fun q2 => ?_) (fun q2 => absurd q2 (by decide))
  refine AW.run X M_compare_d 5 3 rfl ?_
  refine AW.if_eq X (M_compare_d.d 8 rfl) (fun q8 => ?_) (fun q8 => absurd q8 (by decide))
  refine AW.run X M_compare_d 14 2 rfl ?_
  refine AW.callV (As := [.int (nI 2)]) X (M_areNumbers2_m S M tl n u t hG hW hM) cb_M_366 rfl rfl M_areNumbers_im M_areNumbers_se rfl ⟨Nat.le_of_ble_eq_true rfl, Nat.le_of_ble_eq_true rfl⟩ (Nat.le_of_ble_eq_true rfl) ⟨Nat.le_of_ble_eq_true rfl, Nat.le_of_ble_eq_true rfl⟩ (M_compare_d.d 16 rfl) (fun v h' q => ?_)
  rcases q with ⟨hc, rfl, rfl⟩ | ⟨hc, rfl, rfl⟩
  · obtain ⟨hn, ht2, ht1⟩ := pn2_o hc
    refine AW.if_ne X (M_compare_d.d 17 rfl) (fun q17 => ?_) (fun q17 => absurd q17 (by decide))
    refine AW.run X M_compare_d 19 1 rfl ?_
    refine AW.if_eq X (M_compare_d.d 20 rfl) (fun q20 => ?_) (fun q20 => absurd q20 (by decide))
    refine AW.run X M_compare_d 40 1 rfl ?_
    refine AW.callV (As := []) X (M_take_m S M tl n u t hW.1 hM (by omega)) cb_M_392 rfl rfl M_take_im M_take_se rfl ⟨Nat.le_of_ble_eq_true rfl, Nat.le_of_ble_eq_true rfl⟩ (Nat.le_of_ble_eq_true rfl) ⟨Nat.le_of_ble_eq_true rfl, Nat.le_of_ble_eq_true rfl⟩ (M_compare_d.d 41 rfl) (fun v h' q => ?_)
    obtain ⟨rfl, rfl⟩ := q
    refine AW.run X M_compare_d 42 2 rfl ?_
    refine AW.callV (As := []) X (M_take_m S (y_i M 9 (nI (n - 1))) tl (n - 1) u t (by have := hW.1; omega) hM.tk (by omega)) cb_M_392 rfl rfl M_take_im M_take_se rfl ⟨Nat.le_of_ble_eq_true rfl, Nat.le_of_ble_eq_true rfl⟩ (Nat.le_of_ble_eq_true rfl) ⟨Nat.le_of_ble_eq_true rfl, Nat.le_of_ble_eq_true rfl⟩ (M_compare_d.d 44 rfl) (fun v h' q => ?_)
    obtain ⟨rfl, rfl⟩ := q
    rw [show n - 1 - 1 = n - 2 by omega]
    refine AW.run X M_compare_d 45 2 rfl ?_
    refine AW.tableOut X (M_compare_d.d 47 rfl) (by decide) ?_
    refine AW.run X M_compare_d 98 4 rfl ?_
    refine AW.if_gt X (M_compare_d.d 102 rfl) (fun q102 => ?_) (fun q102 => ?_)
    · refine AW.run X M_compare_d 105 1 rfl ?_
      rw [show Int32.ofInt 0 = bI (decide (u (n - 2) ≤ u (n - 1))) from by rw [decide_eq_false (p := u (n - 2) ≤ u (n - 1)) (Int.not_le.mpr ((lc_gt (a := u (n - 2)) (b := u (n - 1)) (zN_L (hW.2 (n - 2) (by omega)).1) (zN_L (hW.2 (n - 1) (by omega)).1)).mp q102))]; rfl]
      refine AW.callV (As := [.int (bI (decide (u (n - 2) ≤ u (n - 1))))]) X (M_putTruth_m S (y_i (y_i M 9 (nI (n - 1))) 9 (nI (n - 2))) tl (n - 2) u t (decide (u (n - 2) ≤ u (n - 1))) (gd_i (by decide) (gd_i (by decide) hG)) (by have := hW.1; omega) (ms_tk2 hM)) cb_M_426 rfl rfl M_putTruth_im M_putTruth_se rfl ⟨Nat.le_of_ble_eq_true rfl, Nat.le_of_ble_eq_true rfl⟩ (Nat.le_of_ble_eq_true rfl) ⟨Nat.le_of_ble_eq_true rfl, Nat.le_of_ble_eq_true rfl⟩ (M_compare_d.d 106 rfl) (fun v h' q => ?_)
      obtain ⟨rfl, q⟩ := q
      exact AW.vret X (M_compare_d.d 107 rfl) (Nat.le_of_ble_eq_true rfl) (Nat.le_of_ble_eq_true rfl) ⟨rfl, mp_tr ((MFr.d _ _).trans (MFr.d _ _)) (by rw [pS_26]; unfold pcmp; rw [if_neg (by omega), if_neg (fun z => z.elim (fun z => z (by rw [ht1, ht2])) (fun z => by rw [ht2] at z; exact Bool.false_ne_true z.2))]; exact pg_sh (by omega) hn hW.1) q⟩
    · refine AW.run X M_compare_d 103 1 rfl ?_
      refine AW.goto X (M_compare_d.d 104 rfl) ?_
      rw [show Int32.ofInt 1 = bI (decide (u (n - 2) ≤ u (n - 1))) from by rw [decide_eq_true (p := u (n - 2) ≤ u (n - 1)) (Int.not_lt.mp (mt (lc_gt (a := u (n - 2)) (b := u (n - 1)) (zN_L (hW.2 (n - 2) (by omega)).1) (zN_L (hW.2 (n - 1) (by omega)).1)).mpr q102))]; rfl]
      refine AW.callV (As := [.int (bI (decide (u (n - 2) ≤ u (n - 1))))]) X (M_putTruth_m S (y_i (y_i M 9 (nI (n - 1))) 9 (nI (n - 2))) tl (n - 2) u t (decide (u (n - 2) ≤ u (n - 1))) (gd_i (by decide) (gd_i (by decide) hG)) (by have := hW.1; omega) (ms_tk2 hM)) cb_M_426 rfl rfl M_putTruth_im M_putTruth_se rfl ⟨Nat.le_of_ble_eq_true rfl, Nat.le_of_ble_eq_true rfl⟩ (Nat.le_of_ble_eq_true rfl) ⟨Nat.le_of_ble_eq_true rfl, Nat.le_of_ble_eq_true rfl⟩ (M_compare_d.d 106 rfl) (fun v h' q => ?_)
      obtain ⟨rfl, q⟩ := q
      exact AW.vret X (M_compare_d.d 107 rfl) (Nat.le_of_ble_eq_true rfl) (Nat.le_of_ble_eq_true rfl) ⟨rfl, mp_tr ((MFr.d _ _).trans (MFr.d _ _)) (by rw [pS_26]; unfold pcmp; rw [if_neg (by omega), if_neg (fun z => z.elim (fun z => z (by rw [ht1, ht2])) (fun z => by rw [ht2] at z; exact Bool.false_ne_true z.2))]; exact pg_sh (by omega) hn hW.1) q⟩
  · refine AW.if_ne X (M_compare_d.d 17 rfl) (fun q17 => absurd q17 (by decide)) (fun q17 => ?_)
    exact AW.vret X (M_compare_d.d 18 rfl) (Nat.le_of_ble_eq_true rfl) (Nat.le_of_ble_eq_true rfl) ⟨rfl, mp_bad (by rw [pS_26]; exact pn2_c hc) hc⟩

set_option maxHeartbeats 4000000 in
set_option maxRecDepth 100000 in
theorem M_joined27_m {l : Launch} {G : ax_G} {h : List va_E} (x y : Int64) :
    AM l VV G M_joined_y M_joined_c 5 (some .long) 0 0 0 [.int 23, .long x, .long y] (h) (fun v h' => v = some (.long (x &&& y)) ∧ h' = h) := by
  refine AM.of (pl := pl_M) (by decide) v_good fl_M_ok kl_M_ok nofun (Nat.le_of_ble_eq_true rfl) ?_
  intro p e s m args below meth c X
  refine AW.run X M_joined_d 0 2 rfl ?_
  refine AW.icmp_ne X (M_joined_d.d 2 rfl) (fun q2 => absurd q2 (by decide)) (fun q2 => ?_)
  refine AW.run X M_joined_d 3 3 rfl ?_
  refine AW.goto X (M_joined_d.d 6 rfl) ?_
  exact AW.lret X (M_joined_d.d 17 rfl) (Nat.le_of_ble_eq_true rfl) (Nat.le_of_ble_eq_true rfl) ⟨rfl, rfl⟩

set_option maxHeartbeats 4000000 in
set_option maxRecDepth 100000 in
theorem M_join27_m {l : Launch} {G : ax_G} (S : x_S) (M : x_M) (tl : List va_E) (n : Nat) (u : Nat → Int) (t : Nat → Bool) (hG : gd M) (hW : WS n u t) (hM : MS M n u t) (num : Int) :
    AM l VV G M_join_y M_join_c 5 none 5 0 0 [.ref 153, .int 23] (x_hM S M tl) (fun v h' => v = none ∧ mp S tl M (pS 27 num n u t) h') := by
  refine AM.of (pl := pl_M) (by decide) v_good fl_M_ok kl_M_ok nofun (Nat.le_of_ble_eq_true rfl) ?_
  intro p e s m args below meth c X
  refine AW.run X M_join_d 0 2 rfl ?_
  refine AW.callV (As := [.int (nI 2)]) X (M_has2_m S M tl n u t hG hW hM) cb_M_363 rfl rfl M_has_im M_has_se rfl ⟨Nat.le_of_ble_eq_true rfl, Nat.le_of_ble_eq_true rfl⟩ (Nat.le_of_ble_eq_true rfl) ⟨Nat.le_of_ble_eq_true rfl, Nat.le_of_ble_eq_true rfl⟩ (M_join_d.d 2 rfl) (fun v h' q => ?_)
  rcases q with ⟨hc, rfl, rfl⟩ | ⟨hc, rfl, rfl⟩
  · have hn := ph_o hc
    refine AW.if_ne X (M_join_d.d 3 rfl) (fun q3 => ?_) (fun q3 => absurd q3 (by decide))
    refine AW.run X M_join_d 5 6 rfl ?_
    refine AW.ml13 (j := n - 1) X (hM.i (k := 1) (by omega)) (by have := hW.1; omega) (M_join_d.d 11 rfl) ?_
    rw [(hM.2 (n - 1) (by omega)).2]
    refine AW.if_eq X (M_join_d.d 12 rfl) (fun q12 => ?_) (fun q12 => ?_)
    · refine AW.run X M_join_d 23 3 rfl ?_
      refine AW.if_eq X (M_join_d.d 26 rfl) (fun q26 => ?_) (fun q26 => absurd q26 (by decide))
      refine AW.run X M_join_d 44 2 rfl ?_
      refine AW.callV (As := [.int (nI 2)]) X (M_areWhole2_m S M tl n u t hG hW hM) cb_M_423 rfl rfl M_areWhole_im M_areWhole_se rfl ⟨Nat.le_of_ble_eq_true rfl, Nat.le_of_ble_eq_true rfl⟩ (Nat.le_of_ble_eq_true rfl) ⟨Nat.le_of_ble_eq_true rfl, Nat.le_of_ble_eq_true rfl⟩ (M_join_d.d 46 rfl) (fun v h' q => ?_)
      rcases q with ⟨hc, rfl, rfl⟩ | ⟨hc, rfl, rfl⟩
      · have hp := pa2_p hc
        obtain ⟨hw2, hw1⟩ := pwh2_w hp
        refine AW.if_eq X (M_join_d.d 47 rfl) (fun q47 => absurd q47 (by decide)) (fun q47 => ?_)
        refine AW.run X M_join_d 48 1 rfl ?_
        refine AW.callV (As := []) X (M_take_m S M tl n u t hW.1 hM (by omega)) cb_M_392 rfl rfl M_take_im M_take_se rfl ⟨Nat.le_of_ble_eq_true rfl, Nat.le_of_ble_eq_true rfl⟩ (Nat.le_of_ble_eq_true rfl) ⟨Nat.le_of_ble_eq_true rfl, Nat.le_of_ble_eq_true rfl⟩ (M_join_d.d 49 rfl) (fun v h' q => ?_)
        obtain ⟨rfl, rfl⟩ := q
        refine AW.run X M_join_d 50 1 rfl ?_
        refine AW.ldiv X (M_join_d.d 51 rfl) (by decide) ?_
        rw [lZ_dw (hW.2 (n - 1) (by omega)).1 hw1]
        refine AW.run X M_join_d 52 4 rfl ?_
        refine AW.callV (As := []) X (M_take_m S (y_i M 9 (nI (n - 1))) tl (n - 1) u t (by have := hW.1; omega) hM.tk (by omega)) cb_M_392 rfl rfl M_take_im M_take_se rfl ⟨Nat.le_of_ble_eq_true rfl, Nat.le_of_ble_eq_true rfl⟩ (Nat.le_of_ble_eq_true rfl) ⟨Nat.le_of_ble_eq_true rfl, Nat.le_of_ble_eq_true rfl⟩ (M_join_d.d 56 rfl) (fun v h' q => ?_)
        obtain ⟨rfl, rfl⟩ := q
        rw [show n - 1 - 1 = n - 2 by omega]
        refine AW.run X M_join_d 57 1 rfl ?_
        refine AW.ldiv X (M_join_d.d 58 rfl) (by decide) ?_
        rw [lZ_dw (hW.2 (n - 2) (by omega)).1 hw2]
        refine AW.run X M_join_d 59 1 rfl ?_
        refine AW.callS (As := [.int 23, .long (lZ (u (n - 2) / 65536)), .long (lZ (u (n - 1) / 65536))]) X (M_joined27_m (lZ (u (n - 2) / 65536)) (lZ (u (n - 1) / 65536))) cb_M_438 M_joined_st rfl ⟨Nat.le_of_ble_eq_true rfl, Nat.le_of_ble_eq_true rfl⟩ (Nat.le_of_ble_eq_true rfl) ⟨Nat.le_of_ble_eq_true rfl, Nat.le_of_ble_eq_true rfl⟩ (M_join_d.d 60 rfl) (fun v h' q => ?_)
        obtain ⟨rfl, rfl⟩ := q
        refine AW.run X M_join_d 61 2 rfl ?_
        rw [show lZ (u (n - 2) / 65536) &&& lZ (u (n - 1) / 65536) = lZ (iZ (u (n - 2) / 65536) &&& iZ (u (n - 1) / 65536)).toInt from jl_and (zI_q (hW.2 (n - 2) (by omega)).1) (zI_q (hW.2 (n - 1) (by omega)).1), show (65536 : Int64) = lZ 65536 from rfl, lZ_mul]
        refine AW.callV (As := [.long (lZ ((iZ (u (n - 2) / 65536) &&& iZ (u (n - 1) / 65536)).toInt * 65536))]) X (M_putNumber_m S (y_i (y_i M 9 (nI (n - 1))) 9 (nI (n - 2))) tl (n - 2) u t ((iZ (u (n - 2) / 65536) &&& iZ (u (n - 1) / 65536)).toInt * 65536) (gd_i (by decide) (gd_i (by decide) hG)) (by have := hW.1; omega) (ms_tk2 hM) (zL_i6 _)) cb_M_382 rfl rfl M_putNumber_im M_putNumber_se rfl ⟨Nat.le_of_ble_eq_true rfl, Nat.le_of_ble_eq_true rfl⟩ (Nat.le_of_ble_eq_true rfl) ⟨Nat.le_of_ble_eq_true rfl, Nat.le_of_ble_eq_true rfl⟩ (M_join_d.d 63 rfl) (fun v h' q => ?_)
        obtain ⟨rfl, q⟩ := q
        exact AW.vret X (M_join_d.d 64 rfl) (Nat.le_of_ble_eq_true rfl) (Nat.le_of_ble_eq_true rfl) ⟨rfl, mp_tr ((MFr.d _ _).trans (MFr.d _ _)) (by rw [pS_27]; unfold plog; rw [if_neg (by omega), if_neg (fun z => by rw [bI_f0 q12] at z; exact Bool.false_ne_true z.2), if_neg (fun z => z hp)]; exact pg_sh (by omega) hn hW.1) q⟩
      · refine AW.if_eq X (M_join_d.d 47 rfl) (fun q47 => ?_) (fun q47 => absurd q47 (by decide))
        exact AW.vret X (M_join_d.d 64 rfl) (Nat.le_of_ble_eq_true rfl) (Nat.le_of_ble_eq_true rfl) ⟨rfl, mp_bad (by rw [pS_27]; unfold plog; rw [if_neg (by omega), if_neg (fun z => by rw [bI_f0 q12] at z; exact Bool.false_ne_true z.2)]; exact pa2_b2 hn hc) hc⟩
    · refine AW.run X M_join_d 13 6 rfl ?_
      refine AW.ml13 (j := n - 2) X (hM.i (k := 2) (by omega)) (by have := hW.1; omega) (M_join_d.d 19 rfl) ?_
      rw [(hM.2 (n - 2) (by omega)).2]
      refine AW.if_eq X (M_join_d.d 20 rfl) (fun q20 => ?_) (fun q20 => ?_)
      · refine AW.run X M_join_d 23 3 rfl ?_
        refine AW.if_eq X (M_join_d.d 26 rfl) (fun q26 => ?_) (fun q26 => absurd q26 (by decide))
        refine AW.run X M_join_d 44 2 rfl ?_
        refine AW.callV (As := [.int (nI 2)]) X (M_areWhole2_m S M tl n u t hG hW hM) cb_M_423 rfl rfl M_areWhole_im M_areWhole_se rfl ⟨Nat.le_of_ble_eq_true rfl, Nat.le_of_ble_eq_true rfl⟩ (Nat.le_of_ble_eq_true rfl) ⟨Nat.le_of_ble_eq_true rfl, Nat.le_of_ble_eq_true rfl⟩ (M_join_d.d 46 rfl) (fun v h' q => ?_)
        rcases q with ⟨hc, rfl, rfl⟩ | ⟨hc, rfl, rfl⟩
        · have hp := pa2_p hc
          obtain ⟨hw2, hw1⟩ := pwh2_w hp
          refine AW.if_eq X (M_join_d.d 47 rfl) (fun q47 => absurd q47 (by decide)) (fun q47 => ?_)
          refine AW.run X M_join_d 48 1 rfl ?_
          refine AW.callV (As := []) X (M_take_m S M tl n u t hW.1 hM (by omega)) cb_M_392 rfl rfl M_take_im M_take_se rfl ⟨Nat.le_of_ble_eq_true rfl, Nat.le_of_ble_eq_true rfl⟩ (Nat.le_of_ble_eq_true rfl) ⟨Nat.le_of_ble_eq_true rfl, Nat.le_of_ble_eq_true rfl⟩ (M_join_d.d 49 rfl) (fun v h' q => ?_)
          obtain ⟨rfl, rfl⟩ := q
          refine AW.run X M_join_d 50 1 rfl ?_
          refine AW.ldiv X (M_join_d.d 51 rfl) (by decide) ?_
          rw [lZ_dw (hW.2 (n - 1) (by omega)).1 hw1]
          refine AW.run X M_join_d 52 4 rfl ?_
          refine AW.callV (As := []) X (M_take_m S (y_i M 9 (nI (n - 1))) tl (n - 1) u t (by have := hW.1; omega) hM.tk (by omega)) cb_M_392 rfl rfl M_take_im M_take_se rfl ⟨Nat.le_of_ble_eq_true rfl, Nat.le_of_ble_eq_true rfl⟩ (Nat.le_of_ble_eq_true rfl) ⟨Nat.le_of_ble_eq_true rfl, Nat.le_of_ble_eq_true rfl⟩ (M_join_d.d 56 rfl) (fun v h' q => ?_)
          obtain ⟨rfl, rfl⟩ := q
          rw [show n - 1 - 1 = n - 2 by omega]
          refine AW.run X M_join_d 57 1 rfl ?_
          refine AW.ldiv X (M_join_d.d 58 rfl) (by decide) ?_
          rw [lZ_dw (hW.2 (n - 2) (by omega)).1 hw2]
          refine AW.run X M_join_d 59 1 rfl ?_
          refine AW.callS (As := [.int 23, .long (lZ (u (n - 2) / 65536)), .long (lZ (u (n - 1) / 65536))]) X (M_joined27_m (lZ (u (n - 2) / 65536)) (lZ (u (n - 1) / 65536))) cb_M_438 M_joined_st rfl ⟨Nat.le_of_ble_eq_true rfl, Nat.le_of_ble_eq_true rfl⟩ (Nat.le_of_ble_eq_true rfl) ⟨Nat.le_of_ble_eq_true rfl, Nat.le_of_ble_eq_true rfl⟩ (M_join_d.d 60 rfl) (fun v h' q => ?_)
          obtain ⟨rfl, rfl⟩ := q
          refine AW.run X M_join_d 61 2 rfl ?_
          rw [show lZ (u (n - 2) / 65536) &&& lZ (u (n - 1) / 65536) = lZ (iZ (u (n - 2) / 65536) &&& iZ (u (n - 1) / 65536)).toInt from jl_and (zI_q (hW.2 (n - 2) (by omega)).1) (zI_q (hW.2 (n - 1) (by omega)).1), show (65536 : Int64) = lZ 65536 from rfl, lZ_mul]
          refine AW.callV (As := [.long (lZ ((iZ (u (n - 2) / 65536) &&& iZ (u (n - 1) / 65536)).toInt * 65536))]) X (M_putNumber_m S (y_i (y_i M 9 (nI (n - 1))) 9 (nI (n - 2))) tl (n - 2) u t ((iZ (u (n - 2) / 65536) &&& iZ (u (n - 1) / 65536)).toInt * 65536) (gd_i (by decide) (gd_i (by decide) hG)) (by have := hW.1; omega) (ms_tk2 hM) (zL_i6 _)) cb_M_382 rfl rfl M_putNumber_im M_putNumber_se rfl ⟨Nat.le_of_ble_eq_true rfl, Nat.le_of_ble_eq_true rfl⟩ (Nat.le_of_ble_eq_true rfl) ⟨Nat.le_of_ble_eq_true rfl, Nat.le_of_ble_eq_true rfl⟩ (M_join_d.d 63 rfl) (fun v h' q => ?_)
          obtain ⟨rfl, q⟩ := q
          exact AW.vret X (M_join_d.d 64 rfl) (Nat.le_of_ble_eq_true rfl) (Nat.le_of_ble_eq_true rfl) ⟨rfl, mp_tr ((MFr.d _ _).trans (MFr.d _ _)) (by rw [pS_27]; unfold plog; rw [if_neg (by omega), if_neg (fun z => by rw [bI_f0 q20] at z; exact Bool.false_ne_true z.1), if_neg (fun z => z hp)]; exact pg_sh (by omega) hn hW.1) q⟩
        · refine AW.if_eq X (M_join_d.d 47 rfl) (fun q47 => ?_) (fun q47 => absurd q47 (by decide))
          exact AW.vret X (M_join_d.d 64 rfl) (Nat.le_of_ble_eq_true rfl) (Nat.le_of_ble_eq_true rfl) ⟨rfl, mp_bad (by rw [pS_27]; unfold plog; rw [if_neg (by omega), if_neg (fun z => by rw [bI_f0 q20] at z; exact Bool.false_ne_true z.1)]; exact pa2_b2 hn hc) hc⟩
      · refine AW.run X M_join_d 21 1 rfl ?_
        refine AW.goto X (M_join_d.d 22 rfl) ?_
        refine AW.run X M_join_d 24 2 rfl ?_
        refine AW.if_eq X (M_join_d.d 26 rfl) (fun q26 => absurd q26 (by decide)) (fun q26 => ?_)
        have htb : t (n - 1) = true := Bool.of_not_eq_false (fun z => q12 ((bI_0 _).mpr z))
        have hta : t (n - 2) = true := Bool.of_not_eq_false (fun z => q20 ((bI_0 _).mpr z))
        refine AW.run X M_join_d 27 1 rfl ?_
        refine AW.callV (As := []) X (M_take_m S M tl n u t hW.1 hM (by omega)) cb_M_392 rfl rfl M_take_im M_take_se rfl ⟨Nat.le_of_ble_eq_true rfl, Nat.le_of_ble_eq_true rfl⟩ (Nat.le_of_ble_eq_true rfl) ⟨Nat.le_of_ble_eq_true rfl, Nat.le_of_ble_eq_true rfl⟩ (M_join_d.d 28 rfl) (fun v h' q => ?_)
        obtain ⟨rfl, rfl⟩ := q
        refine AW.run X M_join_d 29 4 rfl ?_
        refine AW.callV (As := []) X (M_take_m S (y_i M 9 (nI (n - 1))) tl (n - 1) u t (by have := hW.1; omega) hM.tk (by omega)) cb_M_392 rfl rfl M_take_im M_take_se rfl ⟨Nat.le_of_ble_eq_true rfl, Nat.le_of_ble_eq_true rfl⟩ (Nat.le_of_ble_eq_true rfl) ⟨Nat.le_of_ble_eq_true rfl, Nat.le_of_ble_eq_true rfl⟩ (M_join_d.d 33 rfl) (fun v h' q => ?_)
        obtain ⟨rfl, rfl⟩ := q
        rw [show n - 1 - 1 = n - 2 by omega]
        refine AW.run X M_join_d 34 1 rfl ?_
        refine AW.callS (As := [.int 23, .long (lZ (u (n - 2))), .long (lZ (u (n - 1)))]) X (M_joined27_m (lZ (u (n - 2))) (lZ (u (n - 1)))) cb_M_438 M_joined_st rfl ⟨Nat.le_of_ble_eq_true rfl, Nat.le_of_ble_eq_true rfl⟩ (Nat.le_of_ble_eq_true rfl) ⟨Nat.le_of_ble_eq_true rfl, Nat.le_of_ble_eq_true rfl⟩ (M_join_d.d 35 rfl) (fun v h' q => ?_)
        obtain ⟨rfl, rfl⟩ := q
        refine AW.run X M_join_d 36 2 rfl ?_
        refine AW.if_ne X (M_join_d.d 38 rfl) (fun q38 => ?_) (fun q38 => ?_)
        · refine AW.run X M_join_d 41 1 rfl ?_
          rw [show Int32.ofInt 0 = bI (decide (iZ (u (n - 2)) &&& iZ (u (n - 1)) ≠ 0)) from by rw [decide_eq_false (p := iZ (u (n - 2)) &&& iZ (u (n - 1)) ≠ 0) (fun z => q38 ((lg_cmp_eq _ _).mpr ((jo_and ((hW.2 (n - 2) (by omega)).2 hta) ((hW.2 (n - 1) (by omega)).2 htb)).mp z)))]; rfl]
          refine AW.callV (As := [.int (bI (decide (iZ (u (n - 2)) &&& iZ (u (n - 1)) ≠ 0)))]) X (M_putTruth_m S (y_i (y_i M 9 (nI (n - 1))) 9 (nI (n - 2))) tl (n - 2) u t (decide (iZ (u (n - 2)) &&& iZ (u (n - 1)) ≠ 0)) (gd_i (by decide) (gd_i (by decide) hG)) (by have := hW.1; omega) (ms_tk2 hM)) cb_M_426 rfl rfl M_putTruth_im M_putTruth_se rfl ⟨Nat.le_of_ble_eq_true rfl, Nat.le_of_ble_eq_true rfl⟩ (Nat.le_of_ble_eq_true rfl) ⟨Nat.le_of_ble_eq_true rfl, Nat.le_of_ble_eq_true rfl⟩ (M_join_d.d 42 rfl) (fun v h' q => ?_)
          obtain ⟨rfl, q⟩ := q
          refine AW.goto X (M_join_d.d 43 rfl) ?_
          exact AW.vret X (M_join_d.d 64 rfl) (Nat.le_of_ble_eq_true rfl) (Nat.le_of_ble_eq_true rfl) ⟨rfl, mp_tr ((MFr.d _ _).trans (MFr.d _ _)) (by rw [pS_27]; unfold plog; rw [if_neg (by omega), if_pos ⟨hta, htb⟩]; exact pg_sh (by omega) hn hW.1) q⟩
        · refine AW.run X M_join_d 39 1 rfl ?_
          refine AW.goto X (M_join_d.d 40 rfl) ?_
          rw [show Int32.ofInt 1 = bI (decide (iZ (u (n - 2)) &&& iZ (u (n - 1)) ≠ 0)) from by rw [decide_eq_true (p := iZ (u (n - 2)) &&& iZ (u (n - 1)) ≠ 0) ((jo_and ((hW.2 (n - 2) (by omega)).2 hta) ((hW.2 (n - 1) (by omega)).2 htb)).mpr ((lg_cmp_eq _ _).mp q38))]; rfl]
          refine AW.callV (As := [.int (bI (decide (iZ (u (n - 2)) &&& iZ (u (n - 1)) ≠ 0)))]) X (M_putTruth_m S (y_i (y_i M 9 (nI (n - 1))) 9 (nI (n - 2))) tl (n - 2) u t (decide (iZ (u (n - 2)) &&& iZ (u (n - 1)) ≠ 0)) (gd_i (by decide) (gd_i (by decide) hG)) (by have := hW.1; omega) (ms_tk2 hM)) cb_M_426 rfl rfl M_putTruth_im M_putTruth_se rfl ⟨Nat.le_of_ble_eq_true rfl, Nat.le_of_ble_eq_true rfl⟩ (Nat.le_of_ble_eq_true rfl) ⟨Nat.le_of_ble_eq_true rfl, Nat.le_of_ble_eq_true rfl⟩ (M_join_d.d 42 rfl) (fun v h' q => ?_)
          obtain ⟨rfl, q⟩ := q
          refine AW.goto X (M_join_d.d 43 rfl) ?_
          exact AW.vret X (M_join_d.d 64 rfl) (Nat.le_of_ble_eq_true rfl) (Nat.le_of_ble_eq_true rfl) ⟨rfl, mp_tr ((MFr.d _ _).trans (MFr.d _ _)) (by rw [pS_27]; unfold plog; rw [if_neg (by omega), if_pos ⟨hta, htb⟩]; exact pg_sh (by omega) hn hW.1) q⟩
  · have hb := ph_n hc
    refine AW.if_ne X (M_join_d.d 3 rfl) (fun q3 => absurd q3 (by decide)) (fun q3 => ?_)
    exact AW.vret X (M_join_d.d 4 rfl) (Nat.le_of_ble_eq_true rfl) (Nat.le_of_ble_eq_true rfl) ⟨rfl, mp_bad (by rw [pS_27]; unfold plog; rw [if_pos hb.2, hb.1]; rfl) hc⟩

set_option maxHeartbeats 4000000 in
set_option maxRecDepth 100000 in
theorem M_joined28_m {l : Launch} {G : ax_G} {h : List va_E} (x y : Int64) :
    AM l VV G M_joined_y M_joined_c 5 (some .long) 0 0 0 [.int 24, .long x, .long y] (h) (fun v h' => v = some (.long (x ||| y)) ∧ h' = h) := by
  refine AM.of (pl := pl_M) (by decide) v_good fl_M_ok kl_M_ok nofun (Nat.le_of_ble_eq_true rfl) ?_
  intro p e s m args below meth c X
  refine AW.run X M_joined_d 0 2 rfl ?_
  refine AW.icmp_ne X (M_joined_d.d 2 rfl) (fun q2 => ?_) (fun q2 => absurd q2 (by decide))
  refine AW.run X M_joined_d 7 2 rfl ?_
  refine AW.icmp_ne X (M_joined_d.d 9 rfl) (fun q9 => absurd q9 (by decide)) (fun q9 => ?_)
  refine AW.run X M_joined_d 10 3 rfl ?_
  refine AW.goto X (M_joined_d.d 13 rfl) ?_
  exact AW.lret X (M_joined_d.d 17 rfl) (Nat.le_of_ble_eq_true rfl) (Nat.le_of_ble_eq_true rfl) ⟨rfl, rfl⟩

set_option maxHeartbeats 4000000 in
set_option maxRecDepth 100000 in
theorem M_join28_m {l : Launch} {G : ax_G} (S : x_S) (M : x_M) (tl : List va_E) (n : Nat) (u : Nat → Int) (t : Nat → Bool) (hG : gd M) (hW : WS n u t) (hM : MS M n u t) (num : Int) :
    AM l VV G M_join_y M_join_c 5 none 5 0 0 [.ref 153, .int 24] (x_hM S M tl) (fun v h' => v = none ∧ mp S tl M (pS 28 num n u t) h') := by
  refine AM.of (pl := pl_M) (by decide) v_good fl_M_ok kl_M_ok nofun (Nat.le_of_ble_eq_true rfl) ?_
  intro p e s m args below meth c X
  refine AW.run X M_join_d 0 2 rfl ?_
  refine AW.callV (As := [.int (nI 2)]) X (M_has2_m S M tl n u t hG hW hM) cb_M_363 rfl rfl M_has_im M_has_se rfl ⟨Nat.le_of_ble_eq_true rfl, Nat.le_of_ble_eq_true rfl⟩ (Nat.le_of_ble_eq_true rfl) ⟨Nat.le_of_ble_eq_true rfl, Nat.le_of_ble_eq_true rfl⟩ (M_join_d.d 2 rfl) (fun v h' q => ?_)
  rcases q with ⟨hc, rfl, rfl⟩ | ⟨hc, rfl, rfl⟩
  · have hn := ph_o hc
    refine AW.if_ne X (M_join_d.d 3 rfl) (fun q3 => ?_) (fun q3 => absurd q3 (by decide))
    refine AW.run X M_join_d 5 6 rfl ?_
    refine AW.ml13 (j := n - 1) X (hM.i (k := 1) (by omega)) (by have := hW.1; omega) (M_join_d.d 11 rfl) ?_
    rw [(hM.2 (n - 1) (by omega)).2]
    refine AW.if_eq X (M_join_d.d 12 rfl) (fun q12 => ?_) (fun q12 => ?_)
    · refine AW.run X M_join_d 23 3 rfl ?_
      refine AW.if_eq X (M_join_d.d 26 rfl) (fun q26 => ?_) (fun q26 => absurd q26 (by decide))
      refine AW.run X M_join_d 44 2 rfl ?_
      refine AW.callV (As := [.int (nI 2)]) X (M_areWhole2_m S M tl n u t hG hW hM) cb_M_423 rfl rfl M_areWhole_im M_areWhole_se rfl ⟨Nat.le_of_ble_eq_true rfl, Nat.le_of_ble_eq_true rfl⟩ (Nat.le_of_ble_eq_true rfl) ⟨Nat.le_of_ble_eq_true rfl, Nat.le_of_ble_eq_true rfl⟩ (M_join_d.d 46 rfl) (fun v h' q => ?_)
      rcases q with ⟨hc, rfl, rfl⟩ | ⟨hc, rfl, rfl⟩
      · have hp := pa2_p hc
        obtain ⟨hw2, hw1⟩ := pwh2_w hp
        refine AW.if_eq X (M_join_d.d 47 rfl) (fun q47 => absurd q47 (by decide)) (fun q47 => ?_)
        refine AW.run X M_join_d 48 1 rfl ?_
        refine AW.callV (As := []) X (M_take_m S M tl n u t hW.1 hM (by omega)) cb_M_392 rfl rfl M_take_im M_take_se rfl ⟨Nat.le_of_ble_eq_true rfl, Nat.le_of_ble_eq_true rfl⟩ (Nat.le_of_ble_eq_true rfl) ⟨Nat.le_of_ble_eq_true rfl, Nat.le_of_ble_eq_true rfl⟩ (M_join_d.d 49 rfl) (fun v h' q => ?_)
        obtain ⟨rfl, rfl⟩ := q
        refine AW.run X M_join_d 50 1 rfl ?_
        refine AW.ldiv X (M_join_d.d 51 rfl) (by decide) ?_
        rw [lZ_dw (hW.2 (n - 1) (by omega)).1 hw1]
        refine AW.run X M_join_d 52 4 rfl ?_
        refine AW.callV (As := []) X (M_take_m S (y_i M 9 (nI (n - 1))) tl (n - 1) u t (by have := hW.1; omega) hM.tk (by omega)) cb_M_392 rfl rfl M_take_im M_take_se rfl ⟨Nat.le_of_ble_eq_true rfl, Nat.le_of_ble_eq_true rfl⟩ (Nat.le_of_ble_eq_true rfl) ⟨Nat.le_of_ble_eq_true rfl, Nat.le_of_ble_eq_true rfl⟩ (M_join_d.d 56 rfl) (fun v h' q => ?_)
        obtain ⟨rfl, rfl⟩ := q
        rw [show n - 1 - 1 = n - 2 by omega]
        refine AW.run X M_join_d 57 1 rfl ?_
        refine AW.ldiv X (M_join_d.d 58 rfl) (by decide) ?_
        rw [lZ_dw (hW.2 (n - 2) (by omega)).1 hw2]
        refine AW.run X M_join_d 59 1 rfl ?_
        refine AW.callS (As := [.int 24, .long (lZ (u (n - 2) / 65536)), .long (lZ (u (n - 1) / 65536))]) X (M_joined28_m (lZ (u (n - 2) / 65536)) (lZ (u (n - 1) / 65536))) cb_M_438 M_joined_st rfl ⟨Nat.le_of_ble_eq_true rfl, Nat.le_of_ble_eq_true rfl⟩ (Nat.le_of_ble_eq_true rfl) ⟨Nat.le_of_ble_eq_true rfl, Nat.le_of_ble_eq_true rfl⟩ (M_join_d.d 60 rfl) (fun v h' q => ?_)
        obtain ⟨rfl, rfl⟩ := q
        refine AW.run X M_join_d 61 2 rfl ?_
        rw [show lZ (u (n - 2) / 65536) ||| lZ (u (n - 1) / 65536) = lZ (iZ (u (n - 2) / 65536) ||| iZ (u (n - 1) / 65536)).toInt from jl_or (zI_q (hW.2 (n - 2) (by omega)).1) (zI_q (hW.2 (n - 1) (by omega)).1), show (65536 : Int64) = lZ 65536 from rfl, lZ_mul]
        refine AW.callV (As := [.long (lZ ((iZ (u (n - 2) / 65536) ||| iZ (u (n - 1) / 65536)).toInt * 65536))]) X (M_putNumber_m S (y_i (y_i M 9 (nI (n - 1))) 9 (nI (n - 2))) tl (n - 2) u t ((iZ (u (n - 2) / 65536) ||| iZ (u (n - 1) / 65536)).toInt * 65536) (gd_i (by decide) (gd_i (by decide) hG)) (by have := hW.1; omega) (ms_tk2 hM) (zL_i6 _)) cb_M_382 rfl rfl M_putNumber_im M_putNumber_se rfl ⟨Nat.le_of_ble_eq_true rfl, Nat.le_of_ble_eq_true rfl⟩ (Nat.le_of_ble_eq_true rfl) ⟨Nat.le_of_ble_eq_true rfl, Nat.le_of_ble_eq_true rfl⟩ (M_join_d.d 63 rfl) (fun v h' q => ?_)
        obtain ⟨rfl, q⟩ := q
        exact AW.vret X (M_join_d.d 64 rfl) (Nat.le_of_ble_eq_true rfl) (Nat.le_of_ble_eq_true rfl) ⟨rfl, mp_tr ((MFr.d _ _).trans (MFr.d _ _)) (by rw [pS_28]; unfold plog; rw [if_neg (by omega), if_neg (fun z => by rw [bI_f0 q12] at z; exact Bool.false_ne_true z.2), if_neg (fun z => z hp)]; exact pg_sh (by omega) hn hW.1) q⟩
      · refine AW.if_eq X (M_join_d.d 47 rfl) (fun q47 => ?_) (fun q47 => absurd q47 (by decide))
        exact AW.vret X (M_join_d.d 64 rfl) (Nat.le_of_ble_eq_true rfl) (Nat.le_of_ble_eq_true rfl) ⟨rfl, mp_bad (by rw [pS_28]; unfold plog; rw [if_neg (by omega), if_neg (fun z => by rw [bI_f0 q12] at z; exact Bool.false_ne_true z.2)]; exact pa2_b2 hn hc) hc⟩
    · refine AW.run X M_join_d 13 6 rfl ?_
      refine AW.ml13 (j := n - 2) X (hM.i (k := 2) (by omega)) (by have := hW.1; omega) (M_join_d.d 19 rfl) ?_
      rw [(hM.2 (n - 2) (by omega)).2]
      refine AW.if_eq X (M_join_d.d 20 rfl) (fun q20 => ?_) (fun q20 => ?_)
      · refine AW.run X M_join_d 23 3 rfl ?_
        refine AW.if_eq X (M_join_d.d 26 rfl) (fun q26 => ?_) (fun q26 => absurd q26 (by decide))
        refine AW.run X M_join_d 44 2 rfl ?_
        refine AW.callV (As := [.int (nI 2)]) X (M_areWhole2_m S M tl n u t hG hW hM) cb_M_423 rfl rfl M_areWhole_im M_areWhole_se rfl ⟨Nat.le_of_ble_eq_true rfl, Nat.le_of_ble_eq_true rfl⟩ (Nat.le_of_ble_eq_true rfl) ⟨Nat.le_of_ble_eq_true rfl, Nat.le_of_ble_eq_true rfl⟩ (M_join_d.d 46 rfl) (fun v h' q => ?_)
        rcases q with ⟨hc, rfl, rfl⟩ | ⟨hc, rfl, rfl⟩
        · have hp := pa2_p hc
          obtain ⟨hw2, hw1⟩ := pwh2_w hp
          refine AW.if_eq X (M_join_d.d 47 rfl) (fun q47 => absurd q47 (by decide)) (fun q47 => ?_)
          refine AW.run X M_join_d 48 1 rfl ?_
          refine AW.callV (As := []) X (M_take_m S M tl n u t hW.1 hM (by omega)) cb_M_392 rfl rfl M_take_im M_take_se rfl ⟨Nat.le_of_ble_eq_true rfl, Nat.le_of_ble_eq_true rfl⟩ (Nat.le_of_ble_eq_true rfl) ⟨Nat.le_of_ble_eq_true rfl, Nat.le_of_ble_eq_true rfl⟩ (M_join_d.d 49 rfl) (fun v h' q => ?_)
          obtain ⟨rfl, rfl⟩ := q
          refine AW.run X M_join_d 50 1 rfl ?_
          refine AW.ldiv X (M_join_d.d 51 rfl) (by decide) ?_
          rw [lZ_dw (hW.2 (n - 1) (by omega)).1 hw1]
          refine AW.run X M_join_d 52 4 rfl ?_
          refine AW.callV (As := []) X (M_take_m S (y_i M 9 (nI (n - 1))) tl (n - 1) u t (by have := hW.1; omega) hM.tk (by omega)) cb_M_392 rfl rfl M_take_im M_take_se rfl ⟨Nat.le_of_ble_eq_true rfl, Nat.le_of_ble_eq_true rfl⟩ (Nat.le_of_ble_eq_true rfl) ⟨Nat.le_of_ble_eq_true rfl, Nat.le_of_ble_eq_true rfl⟩ (M_join_d.d 56 rfl) (fun v h' q => ?_)
          obtain ⟨rfl, rfl⟩ := q
          rw [show n - 1 - 1 = n - 2 by omega]
          refine AW.run X M_join_d 57 1 rfl ?_
          refine AW.ldiv X (M_join_d.d 58 rfl) (by decide) ?_
          rw [lZ_dw (hW.2 (n - 2) (by omega)).1 hw2]
          refine AW.run X M_join_d 59 1 rfl ?_
          refine AW.callS (As := [.int 24, .long (lZ (u (n - 2) / 65536)), .long (lZ (u (n - 1) / 65536))]) X (M_joined28_m (lZ (u (n - 2) / 65536)) (lZ (u (n - 1) / 65536))) cb_M_438 M_joined_st rfl ⟨Nat.le_of_ble_eq_true rfl, Nat.le_of_ble_eq_true rfl⟩ (Nat.le_of_ble_eq_true rfl) ⟨Nat.le_of_ble_eq_true rfl, Nat.le_of_ble_eq_true rfl⟩ (M_join_d.d 60 rfl) (fun v h' q => ?_)
          obtain ⟨rfl, rfl⟩ := q
          refine AW.run X M_join_d 61 2 rfl ?_
          rw [show lZ (u (n - 2) / 65536) ||| lZ (u (n - 1) / 65536) = lZ (iZ (u (n - 2) / 65536) ||| iZ (u (n - 1) / 65536)).toInt from jl_or (zI_q (hW.2 (n - 2) (by omega)).1) (zI_q (hW.2 (n - 1) (by omega)).1), show (65536 : Int64) = lZ 65536 from rfl, lZ_mul]
          refine AW.callV (As := [.long (lZ ((iZ (u (n - 2) / 65536) ||| iZ (u (n - 1) / 65536)).toInt * 65536))]) X (M_putNumber_m S (y_i (y_i M 9 (nI (n - 1))) 9 (nI (n - 2))) tl (n - 2) u t ((iZ (u (n - 2) / 65536) ||| iZ (u (n - 1) / 65536)).toInt * 65536) (gd_i (by decide) (gd_i (by decide) hG)) (by have := hW.1; omega) (ms_tk2 hM) (zL_i6 _)) cb_M_382 rfl rfl M_putNumber_im M_putNumber_se rfl ⟨Nat.le_of_ble_eq_true rfl, Nat.le_of_ble_eq_true rfl⟩ (Nat.le_of_ble_eq_true rfl) ⟨Nat.le_of_ble_eq_true rfl, Nat.le_of_ble_eq_true rfl⟩ (M_join_d.d 63 rfl) (fun v h' q => ?_)
          obtain ⟨rfl, q⟩ := q
          exact AW.vret X (M_join_d.d 64 rfl) (Nat.le_of_ble_eq_true rfl) (Nat.le_of_ble_eq_true rfl) ⟨rfl, mp_tr ((MFr.d _ _).trans (MFr.d _ _)) (by rw [pS_28]; unfold plog; rw [if_neg (by omega), if_neg (fun z => by rw [bI_f0 q20] at z; exact Bool.false_ne_true z.1), if_neg (fun z => z hp)]; exact pg_sh (by omega) hn hW.1) q⟩
        · refine AW.if_eq X (M_join_d.d 47 rfl) (fun q47 => ?_) (fun q47 => absurd q47 (by decide))
          exact AW.vret X (M_join_d.d 64 rfl) (Nat.le_of_ble_eq_true rfl) (Nat.le_of_ble_eq_true rfl) ⟨rfl, mp_bad (by rw [pS_28]; unfold plog; rw [if_neg (by omega), if_neg (fun z => by rw [bI_f0 q20] at z; exact Bool.false_ne_true z.1)]; exact pa2_b2 hn hc) hc⟩
      · refine AW.run X M_join_d 21 1 rfl ?_
        refine AW.goto X (M_join_d.d 22 rfl) ?_
        refine AW.run X M_join_d 24 2 rfl ?_
        refine AW.if_eq X (M_join_d.d 26 rfl) (fun q26 => absurd q26 (by decide)) (fun q26 => ?_)
        have htb : t (n - 1) = true := Bool.of_not_eq_false (fun z => q12 ((bI_0 _).mpr z))
        have hta : t (n - 2) = true := Bool.of_not_eq_false (fun z => q20 ((bI_0 _).mpr z))
        refine AW.run X M_join_d 27 1 rfl ?_
        refine AW.callV (As := []) X (M_take_m S M tl n u t hW.1 hM (by omega)) cb_M_392 rfl rfl M_take_im M_take_se rfl ⟨Nat.le_of_ble_eq_true rfl, Nat.le_of_ble_eq_true rfl⟩ (Nat.le_of_ble_eq_true rfl) ⟨Nat.le_of_ble_eq_true rfl, Nat.le_of_ble_eq_true rfl⟩ (M_join_d.d 28 rfl) (fun v h' q => ?_)
        obtain ⟨rfl, rfl⟩ := q
        refine AW.run X M_join_d 29 4 rfl ?_
        refine AW.callV (As := []) X (M_take_m S (y_i M 9 (nI (n - 1))) tl (n - 1) u t (by have := hW.1; omega) hM.tk (by omega)) cb_M_392 rfl rfl M_take_im M_take_se rfl ⟨Nat.le_of_ble_eq_true rfl, Nat.le_of_ble_eq_true rfl⟩ (Nat.le_of_ble_eq_true rfl) ⟨Nat.le_of_ble_eq_true rfl, Nat.le_of_ble_eq_true rfl⟩ (M_join_d.d 33 rfl) (fun v h' q => ?_)
        obtain ⟨rfl, rfl⟩ := q
        rw [show n - 1 - 1 = n - 2 by omega]
        refine AW.run X M_join_d 34 1 rfl ?_
        refine AW.callS (As := [.int 24, .long (lZ (u (n - 2))), .long (lZ (u (n - 1)))]) X (M_joined28_m (lZ (u (n - 2))) (lZ (u (n - 1)))) cb_M_438 M_joined_st rfl ⟨Nat.le_of_ble_eq_true rfl, Nat.le_of_ble_eq_true rfl⟩ (Nat.le_of_ble_eq_true rfl) ⟨Nat.le_of_ble_eq_true rfl, Nat.le_of_ble_eq_true rfl⟩ (M_join_d.d 35 rfl) (fun v h' q => ?_)
        obtain ⟨rfl, rfl⟩ := q
        refine AW.run X M_join_d 36 2 rfl ?_
        refine AW.if_ne X (M_join_d.d 38 rfl) (fun q38 => ?_) (fun q38 => ?_)
        · refine AW.run X M_join_d 41 1 rfl ?_
          rw [show Int32.ofInt 0 = bI (decide (iZ (u (n - 2)) ||| iZ (u (n - 1)) ≠ 0)) from by rw [decide_eq_false (p := iZ (u (n - 2)) ||| iZ (u (n - 1)) ≠ 0) (fun z => q38 ((lg_cmp_eq _ _).mpr ((jo_or ((hW.2 (n - 2) (by omega)).2 hta) ((hW.2 (n - 1) (by omega)).2 htb)).mp z)))]; rfl]
          refine AW.callV (As := [.int (bI (decide (iZ (u (n - 2)) ||| iZ (u (n - 1)) ≠ 0)))]) X (M_putTruth_m S (y_i (y_i M 9 (nI (n - 1))) 9 (nI (n - 2))) tl (n - 2) u t (decide (iZ (u (n - 2)) ||| iZ (u (n - 1)) ≠ 0)) (gd_i (by decide) (gd_i (by decide) hG)) (by have := hW.1; omega) (ms_tk2 hM)) cb_M_426 rfl rfl M_putTruth_im M_putTruth_se rfl ⟨Nat.le_of_ble_eq_true rfl, Nat.le_of_ble_eq_true rfl⟩ (Nat.le_of_ble_eq_true rfl) ⟨Nat.le_of_ble_eq_true rfl, Nat.le_of_ble_eq_true rfl⟩ (M_join_d.d 42 rfl) (fun v h' q => ?_)
          obtain ⟨rfl, q⟩ := q
          refine AW.goto X (M_join_d.d 43 rfl) ?_
          exact AW.vret X (M_join_d.d 64 rfl) (Nat.le_of_ble_eq_true rfl) (Nat.le_of_ble_eq_true rfl) ⟨rfl, mp_tr ((MFr.d _ _).trans (MFr.d _ _)) (by rw [pS_28]; unfold plog; rw [if_neg (by omega), if_pos ⟨hta, htb⟩]; exact pg_sh (by omega) hn hW.1) q⟩
        · refine AW.run X M_join_d 39 1 rfl ?_
          refine AW.goto X (M_join_d.d 40 rfl) ?_
          rw [show Int32.ofInt 1 = bI (decide (iZ (u (n - 2)) ||| iZ (u (n - 1)) ≠ 0)) from by rw [decide_eq_true (p := iZ (u (n - 2)) ||| iZ (u (n - 1)) ≠ 0) ((jo_or ((hW.2 (n - 2) (by omega)).2 hta) ((hW.2 (n - 1) (by omega)).2 htb)).mpr ((lg_cmp_eq _ _).mp q38))]; rfl]
          refine AW.callV (As := [.int (bI (decide (iZ (u (n - 2)) ||| iZ (u (n - 1)) ≠ 0)))]) X (M_putTruth_m S (y_i (y_i M 9 (nI (n - 1))) 9 (nI (n - 2))) tl (n - 2) u t (decide (iZ (u (n - 2)) ||| iZ (u (n - 1)) ≠ 0)) (gd_i (by decide) (gd_i (by decide) hG)) (by have := hW.1; omega) (ms_tk2 hM)) cb_M_426 rfl rfl M_putTruth_im M_putTruth_se rfl ⟨Nat.le_of_ble_eq_true rfl, Nat.le_of_ble_eq_true rfl⟩ (Nat.le_of_ble_eq_true rfl) ⟨Nat.le_of_ble_eq_true rfl, Nat.le_of_ble_eq_true rfl⟩ (M_join_d.d 42 rfl) (fun v h' q => ?_)
          obtain ⟨rfl, q⟩ := q
          refine AW.goto X (M_join_d.d 43 rfl) ?_
          exact AW.vret X (M_join_d.d 64 rfl) (Nat.le_of_ble_eq_true rfl) (Nat.le_of_ble_eq_true rfl) ⟨rfl, mp_tr ((MFr.d _ _).trans (MFr.d _ _)) (by rw [pS_28]; unfold plog; rw [if_neg (by omega), if_pos ⟨hta, htb⟩]; exact pg_sh (by omega) hn hW.1) q⟩
  · have hb := ph_n hc
    refine AW.if_ne X (M_join_d.d 3 rfl) (fun q3 => absurd q3 (by decide)) (fun q3 => ?_)
    exact AW.vret X (M_join_d.d 4 rfl) (Nat.le_of_ble_eq_true rfl) (Nat.le_of_ble_eq_true rfl) ⟨rfl, mp_bad (by rw [pS_28]; unfold plog; rw [if_pos hb.2, hb.1]; rfl) hc⟩

set_option maxHeartbeats 4000000 in
set_option maxRecDepth 100000 in
theorem M_joined29_m {l : Launch} {G : ax_G} {h : List va_E} (x y : Int64) :
    AM l VV G M_joined_y M_joined_c 5 (some .long) 0 0 0 [.int 25, .long x, .long y] (h) (fun v h' => v = some (.long (x ^^^ y)) ∧ h' = h) := by
  refine AM.of (pl := pl_M) (by decide) v_good fl_M_ok kl_M_ok nofun (Nat.le_of_ble_eq_true rfl) ?_
  intro p e s m args below meth c X
  refine AW.run X M_joined_d 0 2 rfl ?_
  refine AW.icmp_ne X (M_joined_d.d 2 rfl) (fun q2 => ?_) (fun q2 => absurd q2 (by decide))
  refine AW.run X M_joined_d 7 2 rfl ?_
  refine AW.icmp_ne X (M_joined_d.d 9 rfl) (fun q9 => ?_) (fun q9 => absurd q9 (by decide))
  refine AW.run X M_joined_d 14 3 rfl ?_
  exact AW.lret X (M_joined_d.d 17 rfl) (Nat.le_of_ble_eq_true rfl) (Nat.le_of_ble_eq_true rfl) ⟨rfl, rfl⟩

set_option maxHeartbeats 4000000 in
set_option maxRecDepth 100000 in
theorem M_join29_m {l : Launch} {G : ax_G} (S : x_S) (M : x_M) (tl : List va_E) (n : Nat) (u : Nat → Int) (t : Nat → Bool) (hG : gd M) (hW : WS n u t) (hM : MS M n u t) (num : Int) :
    AM l VV G M_join_y M_join_c 5 none 5 0 0 [.ref 153, .int 25] (x_hM S M tl) (fun v h' => v = none ∧ mp S tl M (pS 29 num n u t) h') := by
  refine AM.of (pl := pl_M) (by decide) v_good fl_M_ok kl_M_ok nofun (Nat.le_of_ble_eq_true rfl) ?_
  intro p e s m args below meth c X
  refine AW.run X M_join_d 0 2 rfl ?_
  refine AW.callV (As := [.int (nI 2)]) X (M_has2_m S M tl n u t hG hW hM) cb_M_363 rfl rfl M_has_im M_has_se rfl ⟨Nat.le_of_ble_eq_true rfl, Nat.le_of_ble_eq_true rfl⟩ (Nat.le_of_ble_eq_true rfl) ⟨Nat.le_of_ble_eq_true rfl, Nat.le_of_ble_eq_true rfl⟩ (M_join_d.d 2 rfl) (fun v h' q => ?_)
  rcases q with ⟨hc, rfl, rfl⟩ | ⟨hc, rfl, rfl⟩
  · have hn := ph_o hc
    refine AW.if_ne X (M_join_d.d 3 rfl) (fun q3 => ?_) (fun q3 => absurd q3 (by decide))
    refine AW.run X M_join_d 5 6 rfl ?_
    refine AW.ml13 (j := n - 1) X (hM.i (k := 1) (by omega)) (by have := hW.1; omega) (M_join_d.d 11 rfl) ?_
    rw [(hM.2 (n - 1) (by omega)).2]
    refine AW.if_eq X (M_join_d.d 12 rfl) (fun q12 => ?_) (fun q12 => ?_)
    · refine AW.run X M_join_d 23 3 rfl ?_
      refine AW.if_eq X (M_join_d.d 26 rfl) (fun q26 => ?_) (fun q26 => absurd q26 (by decide))
      refine AW.run X M_join_d 44 2 rfl ?_
      refine AW.callV (As := [.int (nI 2)]) X (M_areWhole2_m S M tl n u t hG hW hM) cb_M_423 rfl rfl M_areWhole_im M_areWhole_se rfl ⟨Nat.le_of_ble_eq_true rfl, Nat.le_of_ble_eq_true rfl⟩ (Nat.le_of_ble_eq_true rfl) ⟨Nat.le_of_ble_eq_true rfl, Nat.le_of_ble_eq_true rfl⟩ (M_join_d.d 46 rfl) (fun v h' q => ?_)
      rcases q with ⟨hc, rfl, rfl⟩ | ⟨hc, rfl, rfl⟩
      · have hp := pa2_p hc
        obtain ⟨hw2, hw1⟩ := pwh2_w hp
        refine AW.if_eq X (M_join_d.d 47 rfl) (fun q47 => absurd q47 (by decide)) (fun q47 => ?_)
        refine AW.run X M_join_d 48 1 rfl ?_
        refine AW.callV (As := []) X (M_take_m S M tl n u t hW.1 hM (by omega)) cb_M_392 rfl rfl M_take_im M_take_se rfl ⟨Nat.le_of_ble_eq_true rfl, Nat.le_of_ble_eq_true rfl⟩ (Nat.le_of_ble_eq_true rfl) ⟨Nat.le_of_ble_eq_true rfl, Nat.le_of_ble_eq_true rfl⟩ (M_join_d.d 49 rfl) (fun v h' q => ?_)
        obtain ⟨rfl, rfl⟩ := q
        refine AW.run X M_join_d 50 1 rfl ?_
        refine AW.ldiv X (M_join_d.d 51 rfl) (by decide) ?_
        rw [lZ_dw (hW.2 (n - 1) (by omega)).1 hw1]
        refine AW.run X M_join_d 52 4 rfl ?_
        refine AW.callV (As := []) X (M_take_m S (y_i M 9 (nI (n - 1))) tl (n - 1) u t (by have := hW.1; omega) hM.tk (by omega)) cb_M_392 rfl rfl M_take_im M_take_se rfl ⟨Nat.le_of_ble_eq_true rfl, Nat.le_of_ble_eq_true rfl⟩ (Nat.le_of_ble_eq_true rfl) ⟨Nat.le_of_ble_eq_true rfl, Nat.le_of_ble_eq_true rfl⟩ (M_join_d.d 56 rfl) (fun v h' q => ?_)
        obtain ⟨rfl, rfl⟩ := q
        rw [show n - 1 - 1 = n - 2 by omega]
        refine AW.run X M_join_d 57 1 rfl ?_
        refine AW.ldiv X (M_join_d.d 58 rfl) (by decide) ?_
        rw [lZ_dw (hW.2 (n - 2) (by omega)).1 hw2]
        refine AW.run X M_join_d 59 1 rfl ?_
        refine AW.callS (As := [.int 25, .long (lZ (u (n - 2) / 65536)), .long (lZ (u (n - 1) / 65536))]) X (M_joined29_m (lZ (u (n - 2) / 65536)) (lZ (u (n - 1) / 65536))) cb_M_438 M_joined_st rfl ⟨Nat.le_of_ble_eq_true rfl, Nat.le_of_ble_eq_true rfl⟩ (Nat.le_of_ble_eq_true rfl) ⟨Nat.le_of_ble_eq_true rfl, Nat.le_of_ble_eq_true rfl⟩ (M_join_d.d 60 rfl) (fun v h' q => ?_)
        obtain ⟨rfl, rfl⟩ := q
        refine AW.run X M_join_d 61 2 rfl ?_
        rw [show lZ (u (n - 2) / 65536) ^^^ lZ (u (n - 1) / 65536) = lZ (iZ (u (n - 2) / 65536) ^^^ iZ (u (n - 1) / 65536)).toInt from jl_xor (zI_q (hW.2 (n - 2) (by omega)).1) (zI_q (hW.2 (n - 1) (by omega)).1), show (65536 : Int64) = lZ 65536 from rfl, lZ_mul]
        refine AW.callV (As := [.long (lZ ((iZ (u (n - 2) / 65536) ^^^ iZ (u (n - 1) / 65536)).toInt * 65536))]) X (M_putNumber_m S (y_i (y_i M 9 (nI (n - 1))) 9 (nI (n - 2))) tl (n - 2) u t ((iZ (u (n - 2) / 65536) ^^^ iZ (u (n - 1) / 65536)).toInt * 65536) (gd_i (by decide) (gd_i (by decide) hG)) (by have := hW.1; omega) (ms_tk2 hM) (zL_i6 _)) cb_M_382 rfl rfl M_putNumber_im M_putNumber_se rfl ⟨Nat.le_of_ble_eq_true rfl, Nat.le_of_ble_eq_true rfl⟩ (Nat.le_of_ble_eq_true rfl) ⟨Nat.le_of_ble_eq_true rfl, Nat.le_of_ble_eq_true rfl⟩ (M_join_d.d 63 rfl) (fun v h' q => ?_)
        obtain ⟨rfl, q⟩ := q
        exact AW.vret X (M_join_d.d 64 rfl) (Nat.le_of_ble_eq_true rfl) (Nat.le_of_ble_eq_true rfl) ⟨rfl, mp_tr ((MFr.d _ _).trans (MFr.d _ _)) (by rw [pS_29]; unfold plog; rw [if_neg (by omega), if_neg (fun z => by rw [bI_f0 q12] at z; exact Bool.false_ne_true z.2), if_neg (fun z => z hp)]; exact pg_sh (by omega) hn hW.1) q⟩
      · refine AW.if_eq X (M_join_d.d 47 rfl) (fun q47 => ?_) (fun q47 => absurd q47 (by decide))
        exact AW.vret X (M_join_d.d 64 rfl) (Nat.le_of_ble_eq_true rfl) (Nat.le_of_ble_eq_true rfl) ⟨rfl, mp_bad (by rw [pS_29]; unfold plog; rw [if_neg (by omega), if_neg (fun z => by rw [bI_f0 q12] at z; exact Bool.false_ne_true z.2)]; exact pa2_b2 hn hc) hc⟩
    · refine AW.run X M_join_d 13 6 rfl ?_
      refine AW.ml13 (j := n - 2) X (hM.i (k := 2) (by omega)) (by have := hW.1; omega) (M_join_d.d 19 rfl) ?_
      rw [(hM.2 (n - 2) (by omega)).2]
      refine AW.if_eq X (M_join_d.d 20 rfl) (fun q20 => ?_) (fun q20 => ?_)
      · refine AW.run X M_join_d 23 3 rfl ?_
        refine AW.if_eq X (M_join_d.d 26 rfl) (fun q26 => ?_) (fun q26 => absurd q26 (by decide))
        refine AW.run X M_join_d 44 2 rfl ?_
        refine AW.callV (As := [.int (nI 2)]) X (M_areWhole2_m S M tl n u t hG hW hM) cb_M_423 rfl rfl M_areWhole_im M_areWhole_se rfl ⟨Nat.le_of_ble_eq_true rfl, Nat.le_of_ble_eq_true rfl⟩ (Nat.le_of_ble_eq_true rfl) ⟨Nat.le_of_ble_eq_true rfl, Nat.le_of_ble_eq_true rfl⟩ (M_join_d.d 46 rfl) (fun v h' q => ?_)
        rcases q with ⟨hc, rfl, rfl⟩ | ⟨hc, rfl, rfl⟩
        · have hp := pa2_p hc
          obtain ⟨hw2, hw1⟩ := pwh2_w hp
          refine AW.if_eq X (M_join_d.d 47 rfl) (fun q47 => absurd q47 (by decide)) (fun q47 => ?_)
          refine AW.run X M_join_d 48 1 rfl ?_
          refine AW.callV (As := []) X (M_take_m S M tl n u t hW.1 hM (by omega)) cb_M_392 rfl rfl M_take_im M_take_se rfl ⟨Nat.le_of_ble_eq_true rfl, Nat.le_of_ble_eq_true rfl⟩ (Nat.le_of_ble_eq_true rfl) ⟨Nat.le_of_ble_eq_true rfl, Nat.le_of_ble_eq_true rfl⟩ (M_join_d.d 49 rfl) (fun v h' q => ?_)
          obtain ⟨rfl, rfl⟩ := q
          refine AW.run X M_join_d 50 1 rfl ?_
          refine AW.ldiv X (M_join_d.d 51 rfl) (by decide) ?_
          rw [lZ_dw (hW.2 (n - 1) (by omega)).1 hw1]
          refine AW.run X M_join_d 52 4 rfl ?_
          refine AW.callV (As := []) X (M_take_m S (y_i M 9 (nI (n - 1))) tl (n - 1) u t (by have := hW.1; omega) hM.tk (by omega)) cb_M_392 rfl rfl M_take_im M_take_se rfl ⟨Nat.le_of_ble_eq_true rfl, Nat.le_of_ble_eq_true rfl⟩ (Nat.le_of_ble_eq_true rfl) ⟨Nat.le_of_ble_eq_true rfl, Nat.le_of_ble_eq_true rfl⟩ (M_join_d.d 56 rfl) (fun v h' q => ?_)
          obtain ⟨rfl, rfl⟩ := q
          rw [show n - 1 - 1 = n - 2 by omega]
          refine AW.run X M_join_d 57 1 rfl ?_
          refine AW.ldiv X (M_join_d.d 58 rfl) (by decide) ?_
          rw [lZ_dw (hW.2 (n - 2) (by omega)).1 hw2]
          refine AW.run X M_join_d 59 1 rfl ?_
          refine AW.callS (As := [.int 25, .long (lZ (u (n - 2) / 65536)), .long (lZ (u (n - 1) / 65536))]) X (M_joined29_m (lZ (u (n - 2) / 65536)) (lZ (u (n - 1) / 65536))) cb_M_438 M_joined_st rfl ⟨Nat.le_of_ble_eq_true rfl, Nat.le_of_ble_eq_true rfl⟩ (Nat.le_of_ble_eq_true rfl) ⟨Nat.le_of_ble_eq_true rfl, Nat.le_of_ble_eq_true rfl⟩ (M_join_d.d 60 rfl) (fun v h' q => ?_)
          obtain ⟨rfl, rfl⟩ := q
          refine AW.run X M_join_d 61 2 rfl ?_
          rw [show lZ (u (n - 2) / 65536) ^^^ lZ (u (n - 1) / 65536) = lZ (iZ (u (n - 2) / 65536) ^^^ iZ (u (n - 1) / 65536)).toInt from jl_xor (zI_q (hW.2 (n - 2) (by omega)).1) (zI_q (hW.2 (n - 1) (by omega)).1), show (65536 : Int64) = lZ 65536 from rfl, lZ_mul]
          refine AW.callV (As := [.long (lZ ((iZ (u (n - 2) / 65536) ^^^ iZ (u (n - 1) / 65536)).toInt * 65536))]) X (M_putNumber_m S (y_i (y_i M 9 (nI (n - 1))) 9 (nI (n - 2))) tl (n - 2) u t ((iZ (u (n - 2) / 65536) ^^^ iZ (u (n - 1) / 65536)).toInt * 65536) (gd_i (by decide) (gd_i (by decide) hG)) (by have := hW.1; omega) (ms_tk2 hM) (zL_i6 _)) cb_M_382 rfl rfl M_putNumber_im M_putNumber_se rfl ⟨Nat.le_of_ble_eq_true rfl, Nat.le_of_ble_eq_true rfl⟩ (Nat.le_of_ble_eq_true rfl) ⟨Nat.le_of_ble_eq_true rfl, Nat.le_of_ble_eq_true rfl⟩ (M_join_d.d 63 rfl) (fun v h' q => ?_)
          obtain ⟨rfl, q⟩ := q
          exact AW.vret X (M_join_d.d 64 rfl) (Nat.le_of_ble_eq_true rfl) (Nat.le_of_ble_eq_true rfl) ⟨rfl, mp_tr ((MFr.d _ _).trans (MFr.d _ _)) (by rw [pS_29]; unfold plog; rw [if_neg (by omega), if_neg (fun z => by rw [bI_f0 q20] at z; exact Bool.false_ne_true z.1), if_neg (fun z => z hp)]; exact pg_sh (by omega) hn hW.1) q⟩
        · refine AW.if_eq X (M_join_d.d 47 rfl) (fun q47 => ?_) (fun q47 => absurd q47 (by decide))
          exact AW.vret X (M_join_d.d 64 rfl) (Nat.le_of_ble_eq_true rfl) (Nat.le_of_ble_eq_true rfl) ⟨rfl, mp_bad (by rw [pS_29]; unfold plog; rw [if_neg (by omega), if_neg (fun z => by rw [bI_f0 q20] at z; exact Bool.false_ne_true z.1)]; exact pa2_b2 hn hc) hc⟩
      · refine AW.run X M_join_d 21 1 rfl ?_
        refine AW.goto X (M_join_d.d 22 rfl) ?_
        refine AW.run X M_join_d 24 2 rfl ?_
        refine AW.if_eq X (M_join_d.d 26 rfl) (fun q26 => absurd q26 (by decide)) (fun q26 => ?_)
        have htb : t (n - 1) = true := Bool.of_not_eq_false (fun z => q12 ((bI_0 _).mpr z))
        have hta : t (n - 2) = true := Bool.of_not_eq_false (fun z => q20 ((bI_0 _).mpr z))
        refine AW.run X M_join_d 27 1 rfl ?_
        refine AW.callV (As := []) X (M_take_m S M tl n u t hW.1 hM (by omega)) cb_M_392 rfl rfl M_take_im M_take_se rfl ⟨Nat.le_of_ble_eq_true rfl, Nat.le_of_ble_eq_true rfl⟩ (Nat.le_of_ble_eq_true rfl) ⟨Nat.le_of_ble_eq_true rfl, Nat.le_of_ble_eq_true rfl⟩ (M_join_d.d 28 rfl) (fun v h' q => ?_)
        obtain ⟨rfl, rfl⟩ := q
        refine AW.run X M_join_d 29 4 rfl ?_
        refine AW.callV (As := []) X (M_take_m S (y_i M 9 (nI (n - 1))) tl (n - 1) u t (by have := hW.1; omega) hM.tk (by omega)) cb_M_392 rfl rfl M_take_im M_take_se rfl ⟨Nat.le_of_ble_eq_true rfl, Nat.le_of_ble_eq_true rfl⟩ (Nat.le_of_ble_eq_true rfl) ⟨Nat.le_of_ble_eq_true rfl, Nat.le_of_ble_eq_true rfl⟩ (M_join_d.d 33 rfl) (fun v h' q => ?_)
        obtain ⟨rfl, rfl⟩ := q
        rw [show n - 1 - 1 = n - 2 by omega]
        refine AW.run X M_join_d 34 1 rfl ?_
        refine AW.callS (As := [.int 25, .long (lZ (u (n - 2))), .long (lZ (u (n - 1)))]) X (M_joined29_m (lZ (u (n - 2))) (lZ (u (n - 1)))) cb_M_438 M_joined_st rfl ⟨Nat.le_of_ble_eq_true rfl, Nat.le_of_ble_eq_true rfl⟩ (Nat.le_of_ble_eq_true rfl) ⟨Nat.le_of_ble_eq_true rfl, Nat.le_of_ble_eq_true rfl⟩ (M_join_d.d 35 rfl) (fun v h' q => ?_)
        obtain ⟨rfl, rfl⟩ := q
        refine AW.run X M_join_d 36 2 rfl ?_
        refine AW.if_ne X (M_join_d.d 38 rfl) (fun q38 => ?_) (fun q38 => ?_)
        · refine AW.run X M_join_d 41 1 rfl ?_
          rw [show Int32.ofInt 0 = bI (decide (iZ (u (n - 2)) ^^^ iZ (u (n - 1)) ≠ 0)) from by rw [decide_eq_false (p := iZ (u (n - 2)) ^^^ iZ (u (n - 1)) ≠ 0) (fun z => q38 ((lg_cmp_eq _ _).mpr ((jo_xor ((hW.2 (n - 2) (by omega)).2 hta) ((hW.2 (n - 1) (by omega)).2 htb)).mp z)))]; rfl]
          refine AW.callV (As := [.int (bI (decide (iZ (u (n - 2)) ^^^ iZ (u (n - 1)) ≠ 0)))]) X (M_putTruth_m S (y_i (y_i M 9 (nI (n - 1))) 9 (nI (n - 2))) tl (n - 2) u t (decide (iZ (u (n - 2)) ^^^ iZ (u (n - 1)) ≠ 0)) (gd_i (by decide) (gd_i (by decide) hG)) (by have := hW.1; omega) (ms_tk2 hM)) cb_M_426 rfl rfl M_putTruth_im M_putTruth_se rfl ⟨Nat.le_of_ble_eq_true rfl, Nat.le_of_ble_eq_true rfl⟩ (Nat.le_of_ble_eq_true rfl) ⟨Nat.le_of_ble_eq_true rfl, Nat.le_of_ble_eq_true rfl⟩ (M_join_d.d 42 rfl) (fun v h' q => ?_)
          obtain ⟨rfl, q⟩ := q
          refine AW.goto X (M_join_d.d 43 rfl) ?_
          exact AW.vret X (M_join_d.d 64 rfl) (Nat.le_of_ble_eq_true rfl) (Nat.le_of_ble_eq_true rfl) ⟨rfl, mp_tr ((MFr.d _ _).trans (MFr.d _ _)) (by rw [pS_29]; unfold plog; rw [if_neg (by omega), if_pos ⟨hta, htb⟩]; exact pg_sh (by omega) hn hW.1) q⟩
        · refine AW.run X M_join_d 39 1 rfl ?_
          refine AW.goto X (M_join_d.d 40 rfl) ?_
          rw [show Int32.ofInt 1 = bI (decide (iZ (u (n - 2)) ^^^ iZ (u (n - 1)) ≠ 0)) from by rw [decide_eq_true (p := iZ (u (n - 2)) ^^^ iZ (u (n - 1)) ≠ 0) ((jo_xor ((hW.2 (n - 2) (by omega)).2 hta) ((hW.2 (n - 1) (by omega)).2 htb)).mpr ((lg_cmp_eq _ _).mp q38))]; rfl]
          refine AW.callV (As := [.int (bI (decide (iZ (u (n - 2)) ^^^ iZ (u (n - 1)) ≠ 0)))]) X (M_putTruth_m S (y_i (y_i M 9 (nI (n - 1))) 9 (nI (n - 2))) tl (n - 2) u t (decide (iZ (u (n - 2)) ^^^ iZ (u (n - 1)) ≠ 0)) (gd_i (by decide) (gd_i (by decide) hG)) (by have := hW.1; omega) (ms_tk2 hM)) cb_M_426 rfl rfl M_putTruth_im M_putTruth_se rfl ⟨Nat.le_of_ble_eq_true rfl, Nat.le_of_ble_eq_true rfl⟩ (Nat.le_of_ble_eq_true rfl) ⟨Nat.le_of_ble_eq_true rfl, Nat.le_of_ble_eq_true rfl⟩ (M_join_d.d 42 rfl) (fun v h' q => ?_)
          obtain ⟨rfl, q⟩ := q
          refine AW.goto X (M_join_d.d 43 rfl) ?_
          exact AW.vret X (M_join_d.d 64 rfl) (Nat.le_of_ble_eq_true rfl) (Nat.le_of_ble_eq_true rfl) ⟨rfl, mp_tr ((MFr.d _ _).trans (MFr.d _ _)) (by rw [pS_29]; unfold plog; rw [if_neg (by omega), if_pos ⟨hta, htb⟩]; exact pg_sh (by omega) hn hW.1) q⟩
  · have hb := ph_n hc
    refine AW.if_ne X (M_join_d.d 3 rfl) (fun q3 => absurd q3 (by decide)) (fun q3 => ?_)
    exact AW.vret X (M_join_d.d 4 rfl) (Nat.le_of_ble_eq_true rfl) (Nat.le_of_ble_eq_true rfl) ⟨rfl, mp_bad (by rw [pS_29]; unfold plog; rw [if_pos hb.2, hb.1]; rfl) hc⟩

set_option maxHeartbeats 4000000 in
set_option maxRecDepth 100000 in
theorem M_not_m {l : Launch} {G : ax_G} (S : x_S) (M : x_M) (tl : List va_E) (n : Nat) (u : Nat → Int) (t : Nat → Bool) (hG : gd M) (hW : WS n u t) (hM : MS M n u t) (num : Int) :
    AM l VV G M_not_y M_not_c 1 none 5 0 0 [.ref 153] (x_hM S M tl) (fun v h' => v = none ∧ mp S tl M (pS 30 num n u t) h') := by
  refine AM.of (pl := pl_M) (by decide) v_good fl_M_ok kl_M_ok nofun (Nat.le_of_ble_eq_true rfl) ?_
  intro p e s m args below meth c X
  refine AW.run X M_not_d 0 2 rfl ?_
  refine AW.callV (As := [.int (nI 1)]) X (M_has1_m S M tl n u t hG hW hM) cb_M_363 rfl rfl M_has_im M_has_se rfl ⟨Nat.le_of_ble_eq_true rfl, Nat.le_of_ble_eq_true rfl⟩ (Nat.le_of_ble_eq_true rfl) ⟨Nat.le_of_ble_eq_true rfl, Nat.le_of_ble_eq_true rfl⟩ (M_not_d.d 2 rfl) (fun v h' q => ?_)
  rcases q with ⟨hc, rfl, rfl⟩ | ⟨hc, rfl, rfl⟩
  · have hn := ph_o hc
    refine AW.if_ne X (M_not_d.d 3 rfl) (fun q3 => ?_) (fun q3 => absurd q3 (by decide))
    refine AW.run X M_not_d 5 6 rfl ?_
    refine AW.ml13 (j := n - 1) X (hM.i (k := 1) (by omega)) (by have := hW.1; omega) (M_not_d.d 11 rfl) ?_
    rw [(hM.2 (n - 1) (by omega)).2]
    refine AW.if_eq X (M_not_d.d 12 rfl) (fun q12 => ?_) (fun q12 => ?_)
    · refine AW.run X M_not_d 24 2 rfl ?_
      refine AW.callV (As := [.int (nI 1)]) X (M_areWhole1_m S M tl n u t hG hW hM) cb_M_423 rfl rfl M_areWhole_im M_areWhole_se rfl ⟨Nat.le_of_ble_eq_true rfl, Nat.le_of_ble_eq_true rfl⟩ (Nat.le_of_ble_eq_true rfl) ⟨Nat.le_of_ble_eq_true rfl, Nat.le_of_ble_eq_true rfl⟩ (M_not_d.d 26 rfl) (fun v h' q => ?_)
      rcases q with ⟨hc, rfl, rfl⟩ | ⟨hc, rfl, rfl⟩
      · have hp := pa1_p hc
        have hw1 := pwh1_w hp
        refine AW.if_eq X (M_not_d.d 27 rfl) (fun q27 => absurd q27 (by decide)) (fun q27 => ?_)
        refine AW.run X M_not_d 28 3 rfl ?_
        refine AW.callV (As := []) X (M_take_m S M tl n u t hW.1 hM (by omega)) cb_M_392 rfl rfl M_take_im M_take_se rfl ⟨Nat.le_of_ble_eq_true rfl, Nat.le_of_ble_eq_true rfl⟩ (Nat.le_of_ble_eq_true rfl) ⟨Nat.le_of_ble_eq_true rfl, Nat.le_of_ble_eq_true rfl⟩ (M_not_d.d 31 rfl) (fun v h' q => ?_)
        obtain ⟨rfl, rfl⟩ := q
        refine AW.run X M_not_d 32 1 rfl ?_
        refine AW.ldiv X (M_not_d.d 33 rfl) (by decide) ?_
        rw [lZ_dw (hW.2 (n - 1) (by omega)).1 hw1]
        refine AW.run X M_not_d 34 3 rfl ?_
        rw [show (-1 : Int64) = lZ (-1) from by decide, lZ_sub, show (65536 : Int64) = lZ 65536 from rfl, lZ_mul]
        refine AW.callV (As := [.long (lZ ((-1 - u (n - 1) / 65536) * 65536))]) X (M_putNumber_m S (y_i M 9 (nI (n - 1))) tl (n - 1) u t ((-1 - u (n - 1) / 65536) * 65536) (gd_i (by decide) hG) (by have := hW.1; omega) hM.tk (by have := zN_q (hW.2 (n - 1) (by omega)).1; exact ⟨by omega, by omega⟩)) cb_M_382 rfl rfl M_putNumber_im M_putNumber_se rfl ⟨Nat.le_of_ble_eq_true rfl, Nat.le_of_ble_eq_true rfl⟩ (Nat.le_of_ble_eq_true rfl) ⟨Nat.le_of_ble_eq_true rfl, Nat.le_of_ble_eq_true rfl⟩ (M_not_d.d 37 rfl) (fun v h' q => ?_)
        obtain ⟨rfl, q⟩ := q
        exact AW.vret X (M_not_d.d 38 rfl) (Nat.le_of_ble_eq_true rfl) (Nat.le_of_ble_eq_true rfl) ⟨rfl, mp_tr (MFr.d _ _) (by rw [pS_30]; unfold pnot; rw [if_neg (by omega), if_neg (by rw [bI_f0 q12]; decide), if_neg (fun z => z hp)]; exact pg_sh (by omega) hn hW.1) q⟩
      · refine AW.if_eq X (M_not_d.d 27 rfl) (fun q27 => ?_) (fun q27 => absurd q27 (by decide))
        exact AW.vret X (M_not_d.d 38 rfl) (Nat.le_of_ble_eq_true rfl) (Nat.le_of_ble_eq_true rfl) ⟨rfl, mp_bad (by rw [pS_30]; unfold pnot; rw [if_neg (by omega), if_neg (by rw [bI_f0 q12]; decide)]; exact pa1_b2 hn hc) hc⟩
    · refine AW.run X M_not_d 13 2 rfl ?_
      refine AW.callV (As := []) X (M_take_m S M tl n u t hW.1 hM (by omega)) cb_M_392 rfl rfl M_take_im M_take_se rfl ⟨Nat.le_of_ble_eq_true rfl, Nat.le_of_ble_eq_true rfl⟩ (Nat.le_of_ble_eq_true rfl) ⟨Nat.le_of_ble_eq_true rfl, Nat.le_of_ble_eq_true rfl⟩ (M_not_d.d 15 rfl) (fun v h' q => ?_)
      obtain ⟨rfl, rfl⟩ := q
      refine AW.run X M_not_d 16 2 rfl ?_
      refine AW.if_ne X (M_not_d.d 18 rfl) (fun q18 => ?_) (fun q18 => ?_)
      · refine AW.run X M_not_d 21 1 rfl ?_
        rw [show Int32.ofInt 0 = bI (decide (u (n - 1) = 0)) from by rw [decide_eq_false (p := u (n - 1) = 0) (fun z => q18 ((lc_eq (a := u (n - 1)) (b := 0) (zN_L (hW.2 (n - 1) (by omega)).1) ⟨by decide, by decide⟩).mpr z))]; rfl]
        refine AW.callV (As := [.int (bI (decide (u (n - 1) = 0)))]) X (M_putTruth_m S (y_i M 9 (nI (n - 1))) tl (n - 1) u t (decide (u (n - 1) = 0)) (gd_i (by decide) hG) (by have := hW.1; omega) hM.tk) cb_M_426 rfl rfl M_putTruth_im M_putTruth_se rfl ⟨Nat.le_of_ble_eq_true rfl, Nat.le_of_ble_eq_true rfl⟩ (Nat.le_of_ble_eq_true rfl) ⟨Nat.le_of_ble_eq_true rfl, Nat.le_of_ble_eq_true rfl⟩ (M_not_d.d 22 rfl) (fun v h' q => ?_)
        obtain ⟨rfl, q⟩ := q
        refine AW.goto X (M_not_d.d 23 rfl) ?_
        exact AW.vret X (M_not_d.d 38 rfl) (Nat.le_of_ble_eq_true rfl) (Nat.le_of_ble_eq_true rfl) ⟨rfl, mp_tr (MFr.d _ _) (by rw [pS_30]; unfold pnot; rw [if_neg (by omega), if_pos (Bool.of_not_eq_false (fun z => q12 ((bI_0 _).mpr z)))]; exact pg_sh (by omega) hn hW.1) q⟩
      · refine AW.run X M_not_d 19 1 rfl ?_
        refine AW.goto X (M_not_d.d 20 rfl) ?_
        rw [show Int32.ofInt 1 = bI (decide (u (n - 1) = 0)) from by rw [decide_eq_true (p := u (n - 1) = 0) ((lc_eq (a := u (n - 1)) (b := 0) (zN_L (hW.2 (n - 1) (by omega)).1) ⟨by decide, by decide⟩).mp q18)]; rfl]
        refine AW.callV (As := [.int (bI (decide (u (n - 1) = 0)))]) X (M_putTruth_m S (y_i M 9 (nI (n - 1))) tl (n - 1) u t (decide (u (n - 1) = 0)) (gd_i (by decide) hG) (by have := hW.1; omega) hM.tk) cb_M_426 rfl rfl M_putTruth_im M_putTruth_se rfl ⟨Nat.le_of_ble_eq_true rfl, Nat.le_of_ble_eq_true rfl⟩ (Nat.le_of_ble_eq_true rfl) ⟨Nat.le_of_ble_eq_true rfl, Nat.le_of_ble_eq_true rfl⟩ (M_not_d.d 22 rfl) (fun v h' q => ?_)
        obtain ⟨rfl, q⟩ := q
        refine AW.goto X (M_not_d.d 23 rfl) ?_
        exact AW.vret X (M_not_d.d 38 rfl) (Nat.le_of_ble_eq_true rfl) (Nat.le_of_ble_eq_true rfl) ⟨rfl, mp_tr (MFr.d _ _) (by rw [pS_30]; unfold pnot; rw [if_neg (by omega), if_pos (Bool.of_not_eq_false (fun z => q12 ((bI_0 _).mpr z)))]; exact pg_sh (by omega) hn hW.1) q⟩
  · have hb := ph_n hc
    refine AW.if_ne X (M_not_d.d 3 rfl) (fun q3 => absurd q3 (by decide)) (fun q3 => ?_)
    exact AW.vret X (M_not_d.d 4 rfl) (Nat.le_of_ble_eq_true rfl) (Nat.le_of_ble_eq_true rfl) ⟨rfl, mp_bad (by rw [pS_30]; unfold pnot; rw [if_pos hb.2, hb.1]; rfl) hc⟩

set_option maxHeartbeats 4000000 in
set_option maxRecDepth 100000 in
theorem M_shift_m {l : Launch} {G : ax_G} (S : x_S) (M : x_M) (tl : List va_E) (n : Nat) (u : Nat → Int) (t : Nat → Bool) (hG : gd M) (hW : WS n u t) (hM : MS M n u t) (num : Int) :
    AM l VV G M_shift_y M_shift_c 4 none 5 0 0 [.ref 153] (x_hM S M tl) (fun v h' => v = none ∧ mp S tl M (pS 20 num n u t) h') := by
  refine AM.of (pl := pl_M) (by decide) v_good fl_M_ok kl_M_ok nofun (Nat.le_of_ble_eq_true rfl) ?_
  intro p e s m args below meth c X
  refine AW.run X M_shift_d 0 2 rfl ?_
  refine AW.callV (As := [.int (nI 2)]) X (M_areWhole2_m S M tl n u t hG hW hM) cb_M_423 rfl rfl M_areWhole_im M_areWhole_se rfl ⟨Nat.le_of_ble_eq_true rfl, Nat.le_of_ble_eq_true rfl⟩ (Nat.le_of_ble_eq_true rfl) ⟨Nat.le_of_ble_eq_true rfl, Nat.le_of_ble_eq_true rfl⟩ (M_shift_d.d 2 rfl) (fun v h' q => ?_)
  rcases q with ⟨hc, rfl, rfl⟩ | ⟨hc, rfl, rfl⟩
  · have hn := pa2_n hc
    have hp := pa2_p hc
    obtain ⟨hw2, hw1⟩ := pwh2_w hp
    refine AW.if_eq X (M_shift_d.d 3 rfl) (fun q3 => absurd q3 (by decide)) (fun q3 => ?_)
    refine AW.run X M_shift_d 4 6 rfl ?_
    refine AW.mll3 (j := n - 1) X (hM.i (k := 1) (by omega)) (by have := hW.1; omega) (M_shift_d.d 10 rfl) ?_
    rw [(hM.2 (n - 1) (by omega)).1]
    refine AW.run X M_shift_d 11 2 rfl ?_
    rw [show (-2031616 : Int64) = lZ (-2031616) from by decide, show (2031616 : Int64) = lZ 2031616 from rfl]
    refine AW.callS (As := [.long (lZ (u (n - 1))), .long (lZ (-2031616)), .long (lZ 2031616)]) X (M_isIn_m (u (n - 1)) (-2031616) 2031616 (zN_L (hW.2 (n - 1) (by omega)).1) ⟨by decide, by decide⟩ ⟨by decide, by decide⟩) cb_M_92 M_isIn_st rfl ⟨Nat.le_of_ble_eq_true rfl, Nat.le_of_ble_eq_true rfl⟩ (Nat.le_of_ble_eq_true rfl) ⟨Nat.le_of_ble_eq_true rfl, Nat.le_of_ble_eq_true rfl⟩ (M_shift_d.d 13 rfl) (fun v h' q => ?_)
    obtain ⟨rfl, rfl⟩ := q
    refine AW.if_ne X (M_shift_d.d 14 rfl) (fun q14 => ?_) (fun q14 => ?_)
    · refine AW.run X M_shift_d 18 1 rfl ?_
      refine AW.callV (As := []) X (M_isGoodG_m S M tl hG) cb_M_349 rfl rfl M_isGood_im M_isGood_se rfl ⟨Nat.le_of_ble_eq_true rfl, Nat.le_of_ble_eq_true rfl⟩ (Nat.le_of_ble_eq_true rfl) ⟨Nat.le_of_ble_eq_true rfl, Nat.le_of_ble_eq_true rfl⟩ (M_shift_d.d 19 rfl) (fun v h' q => ?_)
      obtain ⟨rfl, rfl⟩ := q
      refine AW.if_eq X (M_shift_d.d 20 rfl) (fun q20 => absurd q20 (by decide)) (fun q20 => ?_)
      refine AW.run X M_shift_d 21 1 rfl ?_
      refine AW.callV (As := []) X (M_take_m S M tl n u t hW.1 hM (by omega)) cb_M_392 rfl rfl M_take_im M_take_se rfl ⟨Nat.le_of_ble_eq_true rfl, Nat.le_of_ble_eq_true rfl⟩ (Nat.le_of_ble_eq_true rfl) ⟨Nat.le_of_ble_eq_true rfl, Nat.le_of_ble_eq_true rfl⟩ (M_shift_d.d 22 rfl) (fun v h' q => ?_)
      obtain ⟨rfl, rfl⟩ := q
      refine AW.run X M_shift_d 23 1 rfl ?_
      refine AW.ldiv X (M_shift_d.d 24 rfl) (by decide) ?_
      rw [lZ_dw (hW.2 (n - 1) (by omega)).1 hw1]
      refine AW.run X M_shift_d 25 1 rfl ?_
      rw [lZ_i]
      refine AW.run X M_shift_d 26 2 rfl ?_
      refine AW.callV (As := []) X (M_take_m S (y_i M 9 (nI (n - 1))) tl (n - 1) u t (by have := hW.1; omega) hM.tk (by omega)) cb_M_392 rfl rfl M_take_im M_take_se rfl ⟨Nat.le_of_ble_eq_true rfl, Nat.le_of_ble_eq_true rfl⟩ (Nat.le_of_ble_eq_true rfl) ⟨Nat.le_of_ble_eq_true rfl, Nat.le_of_ble_eq_true rfl⟩ (M_shift_d.d 28 rfl) (fun v h' q => ?_)
      obtain ⟨rfl, rfl⟩ := q
      rw [show n - 1 - 1 = n - 2 by omega]
      refine AW.run X M_shift_d 29 1 rfl ?_
      refine AW.ldiv X (M_shift_d.d 30 rfl) (by decide) ?_
      rw [lZ_dw (hW.2 (n - 2) (by omega)).1 hw2]
      refine AW.run X M_shift_d 31 1 rfl ?_
      rw [lZ_i]
      refine AW.run X M_shift_d 32 2 rfl ?_
      refine AW.if_lt X (M_shift_d.d 34 rfl) (fun q34 => ?_) (fun q34 => ?_)
      · refine AW.run X M_shift_d 39 10 rfl ?_
        rw [show ((iZ (u (n - 2) / 65536)).toUInt32 >>> ((-iZ (u (n - 1) / 65536)).toUInt32 &&& Int32.toUInt32 31)).toInt32 = zsh (u (n - 2) / 65536) (u (n - 1) / 65536) from by unfold zsh; rw [if_pos ((iZ_lt (a := u (n - 1) / 65536) (b := 0) (zI_q (hW.2 (n - 1) (by omega)).1) ⟨by decide, by decide⟩).mp q34), iZ_neg], i_l, show (65536 : Int64) = lZ 65536 from rfl, lZ_mul]
        refine AW.callV (As := [.long (lZ ((zsh (u (n - 2) / 65536) (u (n - 1) / 65536)).toInt * 65536))]) X (M_putNumber_m S (y_i (y_i M 9 (nI (n - 1))) 9 (nI (n - 2))) tl (n - 2) u t ((zsh (u (n - 2) / 65536) (u (n - 1) / 65536)).toInt * 65536) (gd_i (by decide) (gd_i (by decide) hG)) (by have := hW.1; omega) (ms_tk2 hM) (zL_i6 _)) cb_M_382 rfl rfl M_putNumber_im M_putNumber_se rfl ⟨Nat.le_of_ble_eq_true rfl, Nat.le_of_ble_eq_true rfl⟩ (Nat.le_of_ble_eq_true rfl) ⟨Nat.le_of_ble_eq_true rfl, Nat.le_of_ble_eq_true rfl⟩ (M_shift_d.d 49 rfl) (fun v h' q => ?_)
        obtain ⟨rfl, q⟩ := q
        exact AW.vret X (M_shift_d.d 50 rfl) (Nat.le_of_ble_eq_true rfl) (Nat.le_of_ble_eq_true rfl) ⟨rfl, mp_tr ((MFr.d _ _).trans (MFr.d _ _)) (by rw [pS_20]; unfold pshift; rw [if_neg (by omega), if_neg (fun z => z hp), if_neg (by have := bq_t.mp q14; omega)]; exact pg_sh (by omega) hn hW.1) q⟩
      · refine AW.run X M_shift_d 35 3 rfl ?_
        refine AW.goto X (M_shift_d.d 38 rfl) ?_
        refine AW.run X M_shift_d 43 6 rfl ?_
        rw [show iZ (u (n - 2) / 65536) <<< (iZ (u (n - 1) / 65536) &&& 31) = zsh (u (n - 2) / 65536) (u (n - 1) / 65536) from by unfold zsh; rw [if_neg (by have := mt (iZ_lt (a := u (n - 1) / 65536) (b := 0) (zI_q (hW.2 (n - 1) (by omega)).1) ⟨by decide, by decide⟩).mpr q34; exact this)], i_l, show (65536 : Int64) = lZ 65536 from rfl, lZ_mul]
        refine AW.callV (As := [.long (lZ ((zsh (u (n - 2) / 65536) (u (n - 1) / 65536)).toInt * 65536))]) X (M_putNumber_m S (y_i (y_i M 9 (nI (n - 1))) 9 (nI (n - 2))) tl (n - 2) u t ((zsh (u (n - 2) / 65536) (u (n - 1) / 65536)).toInt * 65536) (gd_i (by decide) (gd_i (by decide) hG)) (by have := hW.1; omega) (ms_tk2 hM) (zL_i6 _)) cb_M_382 rfl rfl M_putNumber_im M_putNumber_se rfl ⟨Nat.le_of_ble_eq_true rfl, Nat.le_of_ble_eq_true rfl⟩ (Nat.le_of_ble_eq_true rfl) ⟨Nat.le_of_ble_eq_true rfl, Nat.le_of_ble_eq_true rfl⟩ (M_shift_d.d 49 rfl) (fun v h' q => ?_)
        obtain ⟨rfl, q⟩ := q
        exact AW.vret X (M_shift_d.d 50 rfl) (Nat.le_of_ble_eq_true rfl) (Nat.le_of_ble_eq_true rfl) ⟨rfl, mp_tr ((MFr.d _ _).trans (MFr.d _ _)) (by rw [pS_20]; unfold pshift; rw [if_neg (by omega), if_neg (fun z => z hp), if_neg (by have := bq_t.mp q14; omega)]; exact pg_sh (by omega) hn hW.1) q⟩
    · refine AW.run X M_shift_d 15 2 rfl ?_
      refine AW.callV (As := [.int (iZ 12)]) X (M_failG_m S M tl 12 hG) cb_M_356 rfl rfl M_fail_im M_fail_se rfl ⟨Nat.le_of_ble_eq_true rfl, Nat.le_of_ble_eq_true rfl⟩ (Nat.le_of_ble_eq_true rfl) ⟨Nat.le_of_ble_eq_true rfl, Nat.le_of_ble_eq_true rfl⟩ (M_shift_d.d 17 rfl) (fun v h' q => ?_)
      obtain ⟨rfl, rfl⟩ := q
      refine AW.run X M_shift_d 18 1 rfl ?_
      refine AW.callV (As := []) X (M_isGoodB_m S (bad M 12) tl (by rw [bad_3]; decide)) cb_M_349 rfl rfl M_isGood_im M_isGood_se rfl ⟨Nat.le_of_ble_eq_true rfl, Nat.le_of_ble_eq_true rfl⟩ (Nat.le_of_ble_eq_true rfl) ⟨Nat.le_of_ble_eq_true rfl, Nat.le_of_ble_eq_true rfl⟩ (M_shift_d.d 19 rfl) (fun v h' q => ?_)
      obtain ⟨rfl, rfl⟩ := q
      refine AW.if_eq X (M_shift_d.d 20 rfl) (fun q20 => ?_) (fun q20 => absurd q20 (by decide))
      exact AW.vret X (M_shift_d.d 50 rfl) (Nat.le_of_ble_eq_true rfl) (Nat.le_of_ble_eq_true rfl) ⟨rfl, mp_bad (by rw [pS_20]; unfold pshift; rw [if_neg (by omega), if_neg (fun z => z hp), if_pos (by have := bq_f.mp q14; omega)]; rfl) (by decide)⟩
  · refine AW.if_eq X (M_shift_d.d 3 rfl) (fun q3 => ?_) (fun q3 => absurd q3 (by decide))
    refine AW.run X M_shift_d 18 1 rfl ?_
    refine AW.callV (As := []) X (M_isGoodB_m S (bad M (pa2 n u t)) tl (bad_na hc)) cb_M_349 rfl rfl M_isGood_im M_isGood_se rfl ⟨Nat.le_of_ble_eq_true rfl, Nat.le_of_ble_eq_true rfl⟩ (Nat.le_of_ble_eq_true rfl) ⟨Nat.le_of_ble_eq_true rfl, Nat.le_of_ble_eq_true rfl⟩ (M_shift_d.d 19 rfl) (fun v h' q => ?_)
    obtain ⟨rfl, rfl⟩ := q
    refine AW.if_eq X (M_shift_d.d 20 rfl) (fun q20 => ?_) (fun q20 => absurd q20 (by decide))
    exact AW.vret X (M_shift_d.d 50 rfl) (Nat.le_of_ble_eq_true rfl) (Nat.le_of_ble_eq_true rfl) ⟨rfl, mp_bad (by rw [pS_20]; unfold pshift; exact pa2_b hc) hc⟩

set_option maxHeartbeats 4000000 in
set_option maxRecDepth 100000 in
theorem M_bits3_m {l : Launch} {G : ax_G} (S : x_S) (M : x_M) (tl : List va_E) (n : Nat) (u : Nat → Int) (t : Nat → Bool) (hG : gd M) (hW : WS n u t) (hM : MS M n u t) (num : Int) :
    AM l VV G M_bits_y M_bits_c 2 none 6 0 0 [.ref 153, .int 21] (x_hM S M tl) (fun v h' => v = none ∧ mp S tl M (pS 3 num n u t) h') := by
  refine AM.of (pl := pl_M) (by decide) v_good fl_M_ok kl_M_ok nofun (Nat.le_of_ble_eq_true rfl) ?_
  intro p e s m args below meth c X
  refine AW.run X M_bits_d 0 2 rfl ?_
  refine AW.icmp_ge X (M_bits_d.d 2 rfl) (fun q2 => absurd q2 (by decide)) (fun q2 => ?_)
  refine AW.run X M_bits_d 3 3 rfl ?_
  refine AW.icmp_ne X (M_bits_d.d 6 rfl) (fun q6 => absurd q6 (by decide)) (fun q6 => ?_)
  refine AW.run X M_bits_d 7 1 rfl ?_
  refine AW.goto X (M_bits_d.d 8 rfl) ?_
  refine AW.callV (As := [.int (bI (true))]) X (M_putTruth_m S M tl n u t (true) hG (by have := hW.1; omega) hM) cb_M_426 rfl rfl M_putTruth_im M_putTruth_se rfl ⟨Nat.le_of_ble_eq_true rfl, Nat.le_of_ble_eq_true rfl⟩ (Nat.le_of_ble_eq_true rfl) ⟨Nat.le_of_ble_eq_true rfl, Nat.le_of_ble_eq_true rfl⟩ (M_bits_d.d 10 rfl) (fun v h' q => ?_)
  obtain ⟨rfl, q⟩ := q
  refine AW.goto X (M_bits_d.d 11 rfl) ?_
  exact AW.vret X (M_bits_d.d 27 rfl) (Nat.le_of_ble_eq_true rfl) (Nat.le_of_ble_eq_true rfl) ⟨rfl, q⟩

set_option maxHeartbeats 4000000 in
set_option maxRecDepth 100000 in
theorem M_bits4_m {l : Launch} {G : ax_G} (S : x_S) (M : x_M) (tl : List va_E) (n : Nat) (u : Nat → Int) (t : Nat → Bool) (hG : gd M) (hW : WS n u t) (hM : MS M n u t) (num : Int) :
    AM l VV G M_bits_y M_bits_c 2 none 6 0 0 [.ref 153, .int 22] (x_hM S M tl) (fun v h' => v = none ∧ mp S tl M (pS 4 num n u t) h') := by
  refine AM.of (pl := pl_M) (by decide) v_good fl_M_ok kl_M_ok nofun (Nat.le_of_ble_eq_true rfl) ?_
  intro p e s m args below meth c X
  refine AW.run X M_bits_d 0 2 rfl ?_
  refine AW.icmp_ge X (M_bits_d.d 2 rfl) (fun q2 => absurd q2 (by decide)) (fun q2 => ?_)
  refine AW.run X M_bits_d 3 3 rfl ?_
  refine AW.icmp_ne X (M_bits_d.d 6 rfl) (fun q6 => ?_) (fun q6 => absurd q6 (by decide))
  refine AW.run X M_bits_d 9 1 rfl ?_
  refine AW.callV (As := [.int (bI (false))]) X (M_putTruth_m S M tl n u t (false) hG (by have := hW.1; omega) hM) cb_M_426 rfl rfl M_putTruth_im M_putTruth_se rfl ⟨Nat.le_of_ble_eq_true rfl, Nat.le_of_ble_eq_true rfl⟩ (Nat.le_of_ble_eq_true rfl) ⟨Nat.le_of_ble_eq_true rfl, Nat.le_of_ble_eq_true rfl⟩ (M_bits_d.d 10 rfl) (fun v h' q => ?_)
  obtain ⟨rfl, q⟩ := q
  refine AW.goto X (M_bits_d.d 11 rfl) ?_
  exact AW.vret X (M_bits_d.d 27 rfl) (Nat.le_of_ble_eq_true rfl) (Nat.le_of_ble_eq_true rfl) ⟨rfl, q⟩

set_option maxHeartbeats 4000000 in
set_option maxRecDepth 100000 in
theorem M_bits27_m {l : Launch} {G : ax_G} (S : x_S) (M : x_M) (tl : List va_E) (n : Nat) (u : Nat → Int) (t : Nat → Bool) (hG : gd M) (hW : WS n u t) (hM : MS M n u t) (num : Int) :
    AM l VV G M_bits_y M_bits_c 2 none 6 0 0 [.ref 153, .int 23] (x_hM S M tl) (fun v h' => v = none ∧ mp S tl M (pS 27 num n u t) h') := by
  refine AM.of (pl := pl_M) (by decide) v_good fl_M_ok kl_M_ok nofun (Nat.le_of_ble_eq_true rfl) ?_
  intro p e s m args below meth c X
  refine AW.run X M_bits_d 0 2 rfl ?_
  refine AW.icmp_ge X (M_bits_d.d 2 rfl) (fun q2 => ?_) (fun q2 => absurd q2 (by decide))
  refine AW.run X M_bits_d 12 2 rfl ?_
  refine AW.icmp_ge X (M_bits_d.d 14 rfl) (fun q14 => absurd q14 (by decide)) (fun q14 => ?_)
  refine AW.run X M_bits_d 15 2 rfl ?_
  refine AW.callV (As := [.int 23]) X (M_join27_m S M tl n u t hG hW hM num) cb_M_430 rfl rfl M_join_im M_join_se rfl ⟨Nat.le_of_ble_eq_true rfl, Nat.le_of_ble_eq_true rfl⟩ (Nat.le_of_ble_eq_true rfl) ⟨Nat.le_of_ble_eq_true rfl, Nat.le_of_ble_eq_true rfl⟩ (M_bits_d.d 17 rfl) (fun v h' q => ?_)
  obtain ⟨rfl, q⟩ := q
  refine AW.goto X (M_bits_d.d 18 rfl) ?_
  exact AW.vret X (M_bits_d.d 27 rfl) (Nat.le_of_ble_eq_true rfl) (Nat.le_of_ble_eq_true rfl) ⟨rfl, q⟩

set_option maxHeartbeats 4000000 in
set_option maxRecDepth 100000 in
theorem M_bits28_m {l : Launch} {G : ax_G} (S : x_S) (M : x_M) (tl : List va_E) (n : Nat) (u : Nat → Int) (t : Nat → Bool) (hG : gd M) (hW : WS n u t) (hM : MS M n u t) (num : Int) :
    AM l VV G M_bits_y M_bits_c 2 none 6 0 0 [.ref 153, .int 24] (x_hM S M tl) (fun v h' => v = none ∧ mp S tl M (pS 28 num n u t) h') := by
  refine AM.of (pl := pl_M) (by decide) v_good fl_M_ok kl_M_ok nofun (Nat.le_of_ble_eq_true rfl) ?_
  intro p e s m args below meth c X
  refine AW.run X M_bits_d 0 2 rfl ?_
  refine AW.icmp_ge X (M_bits_d.d 2 rfl) (fun q2 => ?_) (fun q2 => absurd q2 (by decide))
  refine AW.run X M_bits_d 12 2 rfl ?_
  refine AW.icmp_ge X (M_bits_d.d 14 rfl) (fun q14 => absurd q14 (by decide)) (fun q14 => ?_)
  refine AW.run X M_bits_d 15 2 rfl ?_
  refine AW.callV (As := [.int 24]) X (M_join28_m S M tl n u t hG hW hM num) cb_M_430 rfl rfl M_join_im M_join_se rfl ⟨Nat.le_of_ble_eq_true rfl, Nat.le_of_ble_eq_true rfl⟩ (Nat.le_of_ble_eq_true rfl) ⟨Nat.le_of_ble_eq_true rfl, Nat.le_of_ble_eq_true rfl⟩ (M_bits_d.d 17 rfl) (fun v h' q => ?_)
  obtain ⟨rfl, q⟩ := q
  refine AW.goto X (M_bits_d.d 18 rfl) ?_
  exact AW.vret X (M_bits_d.d 27 rfl) (Nat.le_of_ble_eq_true rfl) (Nat.le_of_ble_eq_true rfl) ⟨rfl, q⟩

set_option maxHeartbeats 4000000 in
set_option maxRecDepth 100000 in
theorem M_bits29_m {l : Launch} {G : ax_G} (S : x_S) (M : x_M) (tl : List va_E) (n : Nat) (u : Nat → Int) (t : Nat → Bool) (hG : gd M) (hW : WS n u t) (hM : MS M n u t) (num : Int) :
    AM l VV G M_bits_y M_bits_c 2 none 6 0 0 [.ref 153, .int 25] (x_hM S M tl) (fun v h' => v = none ∧ mp S tl M (pS 29 num n u t) h') := by
  refine AM.of (pl := pl_M) (by decide) v_good fl_M_ok kl_M_ok nofun (Nat.le_of_ble_eq_true rfl) ?_
  intro p e s m args below meth c X
  refine AW.run X M_bits_d 0 2 rfl ?_
  refine AW.icmp_ge X (M_bits_d.d 2 rfl) (fun q2 => ?_) (fun q2 => absurd q2 (by decide))
  refine AW.run X M_bits_d 12 2 rfl ?_
  refine AW.icmp_ge X (M_bits_d.d 14 rfl) (fun q14 => absurd q14 (by decide)) (fun q14 => ?_)
  refine AW.run X M_bits_d 15 2 rfl ?_
  refine AW.callV (As := [.int 25]) X (M_join29_m S M tl n u t hG hW hM num) cb_M_430 rfl rfl M_join_im M_join_se rfl ⟨Nat.le_of_ble_eq_true rfl, Nat.le_of_ble_eq_true rfl⟩ (Nat.le_of_ble_eq_true rfl) ⟨Nat.le_of_ble_eq_true rfl, Nat.le_of_ble_eq_true rfl⟩ (M_bits_d.d 17 rfl) (fun v h' q => ?_)
  obtain ⟨rfl, q⟩ := q
  refine AW.goto X (M_bits_d.d 18 rfl) ?_
  exact AW.vret X (M_bits_d.d 27 rfl) (Nat.le_of_ble_eq_true rfl) (Nat.le_of_ble_eq_true rfl) ⟨rfl, q⟩

set_option maxHeartbeats 4000000 in
set_option maxRecDepth 100000 in
theorem M_bits30_m {l : Launch} {G : ax_G} (S : x_S) (M : x_M) (tl : List va_E) (n : Nat) (u : Nat → Int) (t : Nat → Bool) (hG : gd M) (hW : WS n u t) (hM : MS M n u t) (num : Int) :
    AM l VV G M_bits_y M_bits_c 2 none 6 0 0 [.ref 153, .int 26] (x_hM S M tl) (fun v h' => v = none ∧ mp S tl M (pS 30 num n u t) h') := by
  refine AM.of (pl := pl_M) (by decide) v_good fl_M_ok kl_M_ok nofun (Nat.le_of_ble_eq_true rfl) ?_
  intro p e s m args below meth c X
  refine AW.run X M_bits_d 0 2 rfl ?_
  refine AW.icmp_ge X (M_bits_d.d 2 rfl) (fun q2 => ?_) (fun q2 => absurd q2 (by decide))
  refine AW.run X M_bits_d 12 2 rfl ?_
  refine AW.icmp_ge X (M_bits_d.d 14 rfl) (fun q14 => ?_) (fun q14 => absurd q14 (by decide))
  refine AW.run X M_bits_d 19 2 rfl ?_
  refine AW.icmp_ne X (M_bits_d.d 21 rfl) (fun q21 => absurd q21 (by decide)) (fun q21 => ?_)
  refine AW.run X M_bits_d 22 1 rfl ?_
  refine AW.callV (As := []) X (M_not_m S M tl n u t hG hW hM num) cb_M_433 rfl rfl M_not_im M_not_se rfl ⟨Nat.le_of_ble_eq_true rfl, Nat.le_of_ble_eq_true rfl⟩ (Nat.le_of_ble_eq_true rfl) ⟨Nat.le_of_ble_eq_true rfl, Nat.le_of_ble_eq_true rfl⟩ (M_bits_d.d 23 rfl) (fun v h' q => ?_)
  obtain ⟨rfl, q⟩ := q
  refine AW.goto X (M_bits_d.d 24 rfl) ?_
  exact AW.vret X (M_bits_d.d 27 rfl) (Nat.le_of_ble_eq_true rfl) (Nat.le_of_ble_eq_true rfl) ⟨rfl, q⟩

set_option maxHeartbeats 4000000 in
set_option maxRecDepth 100000 in
theorem M_bits20_m {l : Launch} {G : ax_G} (S : x_S) (M : x_M) (tl : List va_E) (n : Nat) (u : Nat → Int) (t : Nat → Bool) (hG : gd M) (hW : WS n u t) (hM : MS M n u t) (num : Int) :
    AM l VV G M_bits_y M_bits_c 2 none 6 0 0 [.ref 153, .int 27] (x_hM S M tl) (fun v h' => v = none ∧ mp S tl M (pS 20 num n u t) h') := by
  refine AM.of (pl := pl_M) (by decide) v_good fl_M_ok kl_M_ok nofun (Nat.le_of_ble_eq_true rfl) ?_
  intro p e s m args below meth c X
  refine AW.run X M_bits_d 0 2 rfl ?_
  refine AW.icmp_ge X (M_bits_d.d 2 rfl) (fun q2 => ?_) (fun q2 => absurd q2 (by decide))
  refine AW.run X M_bits_d 12 2 rfl ?_
  refine AW.icmp_ge X (M_bits_d.d 14 rfl) (fun q14 => ?_) (fun q14 => absurd q14 (by decide))
  refine AW.run X M_bits_d 19 2 rfl ?_
  refine AW.icmp_ne X (M_bits_d.d 21 rfl) (fun q21 => ?_) (fun q21 => absurd q21 (by decide))
  refine AW.run X M_bits_d 25 1 rfl ?_
  refine AW.callV (As := []) X (M_shift_m S M tl n u t hG hW hM num) cb_M_435 rfl rfl M_shift_im M_shift_se rfl ⟨Nat.le_of_ble_eq_true rfl, Nat.le_of_ble_eq_true rfl⟩ (Nat.le_of_ble_eq_true rfl) ⟨Nat.le_of_ble_eq_true rfl, Nat.le_of_ble_eq_true rfl⟩ (M_bits_d.d 26 rfl) (fun v h' q => ?_)
  obtain ⟨rfl, q⟩ := q
  exact AW.vret X (M_bits_d.d 27 rfl) (Nat.le_of_ble_eq_true rfl) (Nat.le_of_ble_eq_true rfl) ⟨rfl, q⟩

