theorem y_i0 (S : x_M) (k : Nat) : y_i S k (S.1 k) = S := by
  unfold y_i
  rw [show upd S.1 k (S.1 k) = S.1 from funext fun j => by unfold upd; by_cases h : j = k <;> simp [h]]
theorem mp_roll0 {S : x_S} {tl : List va_E} {M : x_M} {n : Nat} {u : Nat → Int} {t : Nat → Bool} {num : Int} (hM : MS M n u t) (hG : gd M) (hn : 2 ≤ n) (hp : pwh2 n u t = -1) (hm : u (n - 2) / 65536 = 0) : mp S tl M (pS 36 num n u t) (x_hM S (y_i (y_i M 9 (nI (n - 1))) 9 (nI (n - 2))) tl) := by
  have e : pS 36 num n u t = (-1, n - 2, u, t) := by
    rw [pS_36]
    unfold proll
    rw [if_neg (by omega), if_neg (fun z => z hp), if_neg (by omega), if_neg (by omega), hm]
    congr 3
    · funext j; unfold prt; rw [if_neg (by have : (0 : Int).toNat = 0 := rfl; omega)]
    · funext j; unfold prt; rw [if_neg (by have : (0 : Int).toNat = 0 := rfl; omega)]
  rw [e]
  exact ⟨_, rfl, (MFr.d _ _).trans (MFr.d _ _), fun _ => ⟨gd_i (by decide) (gd_i (by decide) hG), ms_tk2 hM⟩, fun z => absurd rfl z⟩
theorem mp_roll {S : x_S} {tl : List va_E} {M : x_M} {n : Nat} {u : Nat → Int} {t : Nat → Bool} {num : Int} (hM : MS M n u t) (hG : gd M) (hn : 2 ≤ n) (hp : pwh2 n u t = -1) (hm : 0 < u (n - 2) / 65536) (hm2 : u (n - 2) / 65536 ≤ (n : Int) - 2) : mp S tl M (pS 36 num n u t) (x_hM S (y_A (y_L (y_i (y_i M 9 (nI (n - 1))) 9 (nI (n - 2))) 3 (prt (n - 2) (u (n - 2) / 65536).toNat (u (n - 1) / 65536 % (u (n - 2) / 65536)).toNat (M.2.2 3))) 13 (prt (n - 2) (u (n - 2) / 65536).toNat (u (n - 1) / 65536 % (u (n - 2) / 65536)).toNat (M.2.1 13))) tl) := by
  have hk1 := Int.emod_nonneg (u (n - 1) / 65536) (show u (n - 2) / 65536 ≠ 0 by omega)
  have hk2 := Int.emod_lt_of_pos (u (n - 1) / 65536) hm
  rw [pS_36]
  unfold proll
  rw [if_neg (by omega), if_neg (fun z => z hp), if_neg (by omega), if_neg (by omega)]
  generalize (u (n - 1) / 65536 % (u (n - 2) / 65536)) = K at *
  generalize (u (n - 2) / 65536) = N at *
  refine ⟨_, rfl, (((MFr.d _ _).trans (MFr.d _ _)).trans (MFr.S _ _)).trans (MFr.T _ _), fun _ => ⟨(show gd (y_i (y_i M 9 (nI (n - 1))) 9 (nI (n - 2))) from gd_i (by decide) (gd_i (by decide) hG)), show (y_i (y_i M 9 (nI (n - 1))) 9 (nI (n - 2))).1 9 = _ from y_ig _ _ _, fun j hj => ?_⟩, fun z => absurd rfl z⟩
  have hj : j < n - 2 := hj
  rw [yt_rl, yt_rt]
  show prt (n - 2) N.toNat K.toNat (M.2.2 3) j = lZ (prt (n - 2) N.toNat K.toNat u j) ∧ prt (n - 2) N.toNat K.toNat (M.2.1 13) j = bI (prt (n - 2) N.toNat K.toNat t j)
  unfold prt
  by_cases z : n - 2 - N.toNat ≤ j ∧ j < n - 2
  · rw [if_pos z, if_pos z, if_pos z, if_pos z]
    by_cases y : n - 2 - N.toNat + K.toNat ≤ j
    · rw [if_pos y, if_pos y, if_pos y, if_pos y]; exact hM.2 _ (by omega)
    · rw [if_neg y, if_neg y, if_neg y, if_neg y]; exact hM.2 _ (by omega)
  · rw [if_neg z, if_neg z, if_neg z, if_neg z]; exact hM.2 j (by omega)
theorem mp_exch {S : x_S} {tl : List va_E} {M : x_M} {n : Nat} {u : Nat → Int} {t : Nat → Bool} {num : Int} (hM : MS M n u t) (hG : gd M) (hn : 2 ≤ n) : mp S tl M (pS 32 num n u t) (x_hM S (y_A (y_L M 3 (prt n 2 1 (M.2.2 3))) 13 (prt n 2 1 (M.2.1 13))) tl) := by
  rw [pS_32]
  unfold pexch
  rw [if_neg (by omega)]
  refine ⟨_, rfl, (MFr.S _ _).trans (MFr.T _ _), fun _ => ⟨hG, hM.1, fun j hj => ?_⟩, fun z => absurd rfl z⟩
  have hj : j < n := hj
  rw [yt_rl, yt_rt]
  show prt n 2 1 (M.2.2 3) j = lZ (pxc n u j) ∧ prt n 2 1 (M.2.1 13) j = bI (pxc n t j)
  unfold prt pxc
  by_cases h : j = n - 2
  · have z : n - 2 ≤ j ∧ j < n := by omega
    have y : ¬ n - 2 + 1 ≤ j := by omega
    rw [if_pos z, if_pos z, if_neg y, if_neg y, if_pos h, if_pos h, show j + 2 - 1 = n - 1 by omega]
    exact hM.2 _ (by omega)
  · by_cases h2 : j = n - 1
    · have z : n - 2 ≤ j ∧ j < n := by omega
      have y : n - 2 + 1 ≤ j := by omega
      rw [if_pos z, if_pos z, if_pos y, if_pos y, if_neg h, if_neg h, if_pos h2, if_pos h2, show j - 1 = n - 2 by omega]
      exact hM.2 _ (by omega)
    · have z : ¬ (n - 2 ≤ j ∧ j < n) := by omega
      rw [if_neg z, if_neg z, if_neg h, if_neg h, if_neg h2, if_neg h2]
      exact hM.2 j hj
set_option maxHeartbeats 4000000 in
set_option maxRecDepth 100000 in
theorem M_roll_m {l : Launch} {G : ax_G} (S : x_S) (M : x_M) (tl : List va_E) (n : Nat) (u : Nat → Int) (t : Nat → Bool) (hG : gd M) (hW : WS n u t) (hM : MS M n u t) (num : Int) :
    AM l VV G M_roll_y M_roll_c 5 none 5 0 0 [.ref 153] (x_hM S M tl) (fun v h' => v = none ∧ mp S tl M (pS 36 num n u t) h') := by
  refine AM.of (pl := pl_M) (by decide) v_good fl_M_ok kl_M_ok nofun (Nat.le_of_ble_eq_true rfl) ?_
  intro p e s m args below meth c X
  refine AW.run X M_roll_d 0 2 rfl ?_
  refine AW.callV (As := [.int (nI 2)]) X (M_areWhole2_m S M tl n u t hG hW hM) cb_M_423 rfl rfl M_areWhole_im M_areWhole_se rfl ⟨Nat.le_of_ble_eq_true rfl, Nat.le_of_ble_eq_true rfl⟩ (Nat.le_of_ble_eq_true rfl) ⟨Nat.le_of_ble_eq_true rfl, Nat.le_of_ble_eq_true rfl⟩ (M_roll_d.d 2 rfl) (fun v h' q => ?_)
  rcases q with ⟨hc, rfl, rfl⟩ | ⟨hc, rfl, rfl⟩
  · have hn := pa2_n hc
    have hp := pa2_p hc
    obtain ⟨hw2, hw1⟩ := pwh2_w hp
    refine AW.if_eq X (M_roll_d.d 3 rfl) (fun q3 => absurd q3 (by decide)) (fun q3 => ?_)
    refine AW.run X M_roll_d 4 2 rfl ?_
    refine AW.callV (As := [.int (nI 1)]) X (M_isAmount1_m S M tl n u t hG hW hM (by omega)) cb_M_457 rfl rfl M_isAmount_im M_isAmount_se rfl ⟨Nat.le_of_ble_eq_true rfl, Nat.le_of_ble_eq_true rfl⟩ (Nat.le_of_ble_eq_true rfl) ⟨Nat.le_of_ble_eq_true rfl, Nat.le_of_ble_eq_true rfl⟩ (M_roll_d.d 6 rfl) (fun v h' q => ?_)
    rcases q with ⟨ha0, rfl, rfl⟩ | ⟨ha0, rfl, rfl⟩
    · rw [show n - 1 - 1 = n - 2 by omega] at ha0
      refine AW.if_ne X (M_roll_d.d 7 rfl) (fun q7 => ?_) (fun q7 => absurd q7 (by decide))
      refine AW.run X M_roll_d 9 1 rfl ?_
      refine AW.callV (As := []) X (M_take_m S M tl n u t hW.1 hM (by omega)) cb_M_392 rfl rfl M_take_im M_take_se rfl ⟨Nat.le_of_ble_eq_true rfl, Nat.le_of_ble_eq_true rfl⟩ (Nat.le_of_ble_eq_true rfl) ⟨Nat.le_of_ble_eq_true rfl, Nat.le_of_ble_eq_true rfl⟩ (M_roll_d.d 10 rfl) (fun v h' q => ?_)
      obtain ⟨rfl, rfl⟩ := q
      refine AW.run X M_roll_d 11 1 rfl ?_
      refine AW.ldiv X (M_roll_d.d 12 rfl) (by decide) ?_
      rw [lZ_dw (hW.2 (n - 1) (by omega)).1 hw1]
      refine AW.run X M_roll_d 13 2 rfl ?_
      refine AW.callV (As := []) X (M_take_m S (y_i M 9 (nI (n - 1))) tl (n - 1) u t (by have := hW.1; omega) hM.tk (by omega)) cb_M_392 rfl rfl M_take_im M_take_se rfl ⟨Nat.le_of_ble_eq_true rfl, Nat.le_of_ble_eq_true rfl⟩ (Nat.le_of_ble_eq_true rfl) ⟨Nat.le_of_ble_eq_true rfl, Nat.le_of_ble_eq_true rfl⟩ (M_roll_d.d 15 rfl) (fun v h' q => ?_)
      obtain ⟨rfl, rfl⟩ := q
      rw [show n - 1 - 1 = n - 2 by omega]
      refine AW.run X M_roll_d 16 1 rfl ?_
      refine AW.ldiv X (M_roll_d.d 17 rfl) (by decide) ?_
      rw [lZ_dw (hW.2 (n - 2) (by omega)).1 hw2]
      refine AW.run X M_roll_d 18 4 rfl ?_
      refine AW.run X M_roll_d 22 1 rfl ?_
      rw [show (y_i (y_i M 9 (nI (n - 1))) 9 (nI (n - 2))).1 9 = nI (n - 2) from y_ig _ _ _, show (nI (n - 2)).toInt64 = lZ ((n - 2 : Nat) : Int) from by rw [iZ_n]; exact iZ_l ⟨by have := hW.1; omega, by have := hW.1; omega⟩]
      refine AW.run X M_roll_d 23 1 rfl ?_
      refine AW.if_le X (M_roll_d.d 24 rfl) (fun q24 => ?_) (fun q24 => ?_)
      · have hle := (lc_le (a := (u (n - 2) / 65536)) (b := ((n - 2 : Nat) : Int)) ⟨by have := (zN_q (hW.2 (n - 2) (by omega)).1); omega, by have := (zN_q (hW.2 (n - 2) (by omega)).1); omega⟩ ⟨by have := hW.1; omega, by have := hW.1; omega⟩).mp q24
        refine AW.run X M_roll_d 29 1 rfl ?_
        refine AW.run X M_roll_d 30 2 rfl ?_
        refine AW.if_le X (M_roll_d.d 32 rfl) (fun q32 => ?_) (fun q32 => ?_)
        · exact AW.vret X (M_roll_d.d 40 rfl) (Nat.le_of_ble_eq_true rfl) (Nat.le_of_ble_eq_true rfl) ⟨rfl, mp_roll0 hM hG hn hp (by have := (lc_le (a := (u (n - 2) / 65536)) (b := 0) ⟨by have := (zN_q (hW.2 (n - 2) (by omega)).1); omega, by have := (zN_q (hW.2 (n - 2) (by omega)).1); omega⟩ ⟨by decide, by decide⟩).mp q32; omega)⟩
        · have h4 : 0 < (u (n - 2) / 65536) := Int.not_le.mp (mt (lc_le (a := (u (n - 2) / 65536)) (b := 0) ⟨by have := (zN_q (hW.2 (n - 2) (by omega)).1); omega, by have := (zN_q (hW.2 (n - 2) (by omega)).1); omega⟩ ⟨by decide, by decide⟩).mpr q32)
          have h5 := Int.emod_nonneg (u (n - 1) / 65536) (show (u (n - 2) / 65536) ≠ 0 by omega)
          have h6 := Int.emod_lt_of_pos (u (n - 1) / 65536) h4
          refine AW.run X M_roll_d 33 5 rfl ?_
          rw [lZ_i]
          refine AW.callS (As := [.long (lZ (u (n - 1) / 65536)), .long (lZ (u (n - 2) / 65536))]) X (JMath_floorMod2_m (u (n - 1) / 65536) (u (n - 2) / 65536) (zN_q (hW.2 (n - 1) (by omega)).1) ⟨h4, by have := (zN_q (hW.2 (n - 2) (by omega)).1); omega⟩) cb_M_462 JMath_floorMod2_st rfl ⟨Nat.le_of_ble_eq_true rfl, Nat.le_of_ble_eq_true rfl⟩ (Nat.le_of_ble_eq_true rfl) ⟨Nat.le_of_ble_eq_true rfl, Nat.le_of_ble_eq_true rfl⟩ (M_roll_d.d 38 rfl) (fun v h' q => ?_)
          obtain ⟨rfl, rfl⟩ := q
          rw [show iZ (u (n - 2) / 65536) = nI (u (n - 2) / 65536).toNat from by rw [iZ_n]; congr 1; omega, show lZ ((u (n - 1) / 65536) % (u (n - 2) / 65536)) = lZ ((((u (n - 1) / 65536) % (u (n - 2) / 65536)).toNat : Nat) : Int) from by congr 1; omega]
          refine AW.callV (As := [.int (nI (u (n - 2) / 65536).toNat), .long (lZ ((((u (n - 1) / 65536) % (u (n - 2) / 65536)).toNat : Nat) : Int))]) X (M_turn_m S (y_i (y_i M 9 (nI (n - 1))) 9 (nI (n - 2))) tl (n - 2) (u (n - 2) / 65536).toNat ((u (n - 1) / 65536) % (u (n - 2) / 65536)).toNat (by have := hW.1; omega) (by omega) (by omega) (y_ig _ _ _) (fun j hj => by rw [show (y_i (y_i M 9 (nI (n - 1))) 9 (nI (n - 2))).2.1 13 j = M.2.1 13 j from rfl, (hM.2 j (by omega)).2]; exact bI_vn _)) cb_M_448 rfl rfl M_turn_im M_turn_se rfl ⟨Nat.le_of_ble_eq_true rfl, Nat.le_of_ble_eq_true rfl⟩ (Nat.le_of_ble_eq_true rfl) ⟨Nat.le_of_ble_eq_true rfl, Nat.le_of_ble_eq_true rfl⟩ (M_roll_d.d 39 rfl) (fun v h' q => ?_)
          obtain ⟨rfl, rfl⟩ := q
          exact AW.vret X (M_roll_d.d 40 rfl) (Nat.le_of_ble_eq_true rfl) (Nat.le_of_ble_eq_true rfl) ⟨rfl, mp_roll hM hG hn hp h4 (by omega)⟩
      · refine AW.run X M_roll_d 25 2 rfl ?_
        refine AW.callV (As := [.int (iZ 9)]) X (M_failG_m S (y_i (y_i M 9 (nI (n - 1))) 9 (nI (n - 2))) tl 9 (gd_i (by decide) (gd_i (by decide) hG))) cb_M_356 rfl rfl M_fail_im M_fail_se rfl ⟨Nat.le_of_ble_eq_true rfl, Nat.le_of_ble_eq_true rfl⟩ (Nat.le_of_ble_eq_true rfl) ⟨Nat.le_of_ble_eq_true rfl, Nat.le_of_ble_eq_true rfl⟩ (M_roll_d.d 27 rfl) (fun v h' q => ?_)
        obtain ⟨rfl, rfl⟩ := q
        refine AW.goto X (M_roll_d.d 28 rfl) ?_
        exact AW.vret X (M_roll_d.d 40 rfl) (Nat.le_of_ble_eq_true rfl) (Nat.le_of_ble_eq_true rfl) ⟨rfl, mp_bad' ((MFr.d _ _).trans (MFr.d _ _)) (by rw [pS_36]; unfold proll; rw [if_neg (by omega), if_neg (fun z => z hp), if_neg (by omega), if_pos (by have := mt (lc_le (a := (u (n - 2) / 65536)) (b := ((n - 2 : Nat) : Int)) ⟨by have := (zN_q (hW.2 (n - 2) (by omega)).1); omega, by have := (zN_q (hW.2 (n - 2) (by omega)).1); omega⟩ ⟨by have := hW.1; omega, by have := hW.1; omega⟩).mpr q24; omega)]; rfl) (by decide)⟩
    · rw [show n - 1 - 1 = n - 2 by omega] at ha0
      refine AW.if_ne X (M_roll_d.d 7 rfl) (fun q7 => absurd q7 (by decide)) (fun q7 => ?_)
      exact AW.vret X (M_roll_d.d 8 rfl) (Nat.le_of_ble_eq_true rfl) (Nat.le_of_ble_eq_true rfl) ⟨rfl, mp_bad (by rw [pS_36]; unfold proll; rw [if_neg (by omega), if_neg (fun z => z hp), if_pos (by omega)]; rfl) (by decide)⟩
  · refine AW.if_eq X (M_roll_d.d 3 rfl) (fun q3 => ?_) (fun q3 => absurd q3 (by decide))
    exact AW.vret X (M_roll_d.d 8 rfl) (Nat.le_of_ble_eq_true rfl) (Nat.le_of_ble_eq_true rfl) ⟨rfl, mp_bad (by rw [pS_36]; unfold proll; exact pa2_b hc) hc⟩

set_option maxHeartbeats 4000000 in
set_option maxRecDepth 100000 in
theorem M_move31_m {l : Launch} {G : ax_G} (S : x_S) (M : x_M) (tl : List va_E) (n : Nat) (u : Nat → Int) (t : Nat → Bool) (hG : gd M) (hW : WS n u t) (hM : MS M n u t) (num : Int) :
    AM l VV G M_move_y M_move_c 2 none 6 0 0 [.ref 153, .int 28] (x_hM S M tl) (fun v h' => v = none ∧ mp S tl M (pS 31 num n u t) h') := by
  refine AM.of (pl := pl_M) (by decide) v_good fl_M_ok kl_M_ok nofun (Nat.le_of_ble_eq_true rfl) ?_
  intro p e s m args below meth c X
  refine AW.run X M_move_d 0 1 rfl ?_
  refine AW.tableIn X (M_move_d.d 1 rfl) (by decide) (by decide) (off := 35) (by decide) ?_
  refine AW.run X M_move_d 2 3 rfl ?_
  refine AW.callV (As := [.int (nI 1)]) X (M_has1_m S M tl n u t hG hW hM) cb_M_363 rfl rfl M_has_im M_has_se rfl ⟨Nat.le_of_ble_eq_true rfl, Nat.le_of_ble_eq_true rfl⟩ (Nat.le_of_ble_eq_true rfl) ⟨Nat.le_of_ble_eq_true rfl, Nat.le_of_ble_eq_true rfl⟩ (M_move_d.d 5 rfl) (fun v h' q => ?_)
  rcases q with ⟨hc, rfl, rfl⟩ | ⟨hc, rfl, rfl⟩
  · have hn := ph_o hc
    refine AW.if_eq X (M_move_d.d 6 rfl) (fun q6 => absurd q6 (by decide)) (fun q6 => ?_)
    refine AW.run X M_move_d 7 4 rfl ?_
    refine AW.goto X (M_move_d.d 11 rfl) ?_
    refine AW.mp9 X (M_move_d.d 14 rfl) ?_
    refine AW.goto X (M_move_d.d 15 rfl) ?_
    exact AW.vret X (M_move_d.d 54 rfl) (Nat.le_of_ble_eq_true rfl) (Nat.le_of_ble_eq_true rfl) ⟨rfl, _, rfl, MFr.d _ _, fun _ => ⟨gd_i (by decide) hG, by rw [pS_31]; unfold ppop; rw [if_neg (by omega)]; exact ⟨(y_ig _ _ _).trans (hM.i (k := 1) hn), fun j hj => hM.2 j (by have : j < n - 1 := hj; omega)⟩⟩, fun z => absurd (by rw [pS_31]; unfold ppop; rw [if_neg (by omega)]) z⟩
  · have hb := ph_n hc
    refine AW.if_eq X (M_move_d.d 6 rfl) (fun q6 => ?_) (fun q6 => absurd q6 (by decide))
    refine AW.run X M_move_d 12 2 rfl ?_
    refine AW.mp9 X (M_move_d.d 14 rfl) ?_
    refine AW.goto X (M_move_d.d 15 rfl) ?_
    exact AW.vret X (M_move_d.d 54 rfl) (Nat.le_of_ble_eq_true rfl) (Nat.le_of_ble_eq_true rfl) (by
      rw [y_i0]
      exact ⟨rfl, mp_bad (by rw [pS_31]; unfold ppop; rw [if_pos hb.2, hb.1]; rfl) hc⟩)

set_option maxHeartbeats 4000000 in
set_option maxRecDepth 100000 in
theorem M_move32_m {l : Launch} {G : ax_G} (S : x_S) (M : x_M) (tl : List va_E) (n : Nat) (u : Nat → Int) (t : Nat → Bool) (hG : gd M) (hW : WS n u t) (hM : MS M n u t) (num : Int) :
    AM l VV G M_move_y M_move_c 2 none 6 0 0 [.ref 153, .int 29] (x_hM S M tl) (fun v h' => v = none ∧ mp S tl M (pS 32 num n u t) h') := by
  refine AM.of (pl := pl_M) (by decide) v_good fl_M_ok kl_M_ok nofun (Nat.le_of_ble_eq_true rfl) ?_
  intro p e s m args below meth c X
  refine AW.run X M_move_d 0 1 rfl ?_
  refine AW.tableIn X (M_move_d.d 1 rfl) (by decide) (by decide) (off := 63) (by decide) ?_
  refine AW.run X M_move_d 16 2 rfl ?_
  refine AW.callV (As := [.int (nI 2)]) X (M_has2_m S M tl n u t hG hW hM) cb_M_363 rfl rfl M_has_im M_has_se rfl ⟨Nat.le_of_ble_eq_true rfl, Nat.le_of_ble_eq_true rfl⟩ (Nat.le_of_ble_eq_true rfl) ⟨Nat.le_of_ble_eq_true rfl, Nat.le_of_ble_eq_true rfl⟩ (M_move_d.d 18 rfl) (fun v h' q => ?_)
  rcases q with ⟨hc, rfl, rfl⟩ | ⟨hc, rfl, rfl⟩
  · have hn := ph_o hc
    refine AW.if_eq X (M_move_d.d 19 rfl) (fun q19 => absurd q19 (by decide)) (fun q19 => ?_)
    refine AW.run X M_move_d 20 3 rfl ?_
    refine AW.callV (As := [.int (nI 2), .long (lZ ((1 : Nat) : Int))]) X (M_turn_m S M tl n 2 1 hW.1 ⟨by decide, hn⟩ (by decide) hM.1 (fun j hj => by rw [(hM.2 j hj).2]; exact bI_vn _)) cb_M_448 rfl rfl M_turn_im M_turn_se rfl ⟨Nat.le_of_ble_eq_true rfl, Nat.le_of_ble_eq_true rfl⟩ (Nat.le_of_ble_eq_true rfl) ⟨Nat.le_of_ble_eq_true rfl, Nat.le_of_ble_eq_true rfl⟩ (M_move_d.d 23 rfl) (fun v h' q => ?_)
    obtain ⟨rfl, rfl⟩ := q
    refine AW.goto X (M_move_d.d 24 rfl) ?_
    exact AW.vret X (M_move_d.d 54 rfl) (Nat.le_of_ble_eq_true rfl) (Nat.le_of_ble_eq_true rfl) ⟨rfl, mp_exch hM hG hn⟩
  · have hb := ph_n hc
    refine AW.if_eq X (M_move_d.d 19 rfl) (fun q19 => ?_) (fun q19 => absurd q19 (by decide))
    exact AW.vret X (M_move_d.d 54 rfl) (Nat.le_of_ble_eq_true rfl) (Nat.le_of_ble_eq_true rfl) ⟨rfl, mp_bad (by rw [pS_32]; unfold pexch; rw [if_pos hb.2, hb.1]; rfl) hc⟩

set_option maxHeartbeats 4000000 in
set_option maxRecDepth 100000 in
theorem M_move33_m {l : Launch} {G : ax_G} (S : x_S) (M : x_M) (tl : List va_E) (n : Nat) (u : Nat → Int) (t : Nat → Bool) (hG : gd M) (hW : WS n u t) (hM : MS M n u t) (num : Int) :
    AM l VV G M_move_y M_move_c 2 none 6 0 0 [.ref 153, .int 30] (x_hM S M tl) (fun v h' => v = none ∧ mp S tl M (pS 33 num n u t) h') := by
  refine AM.of (pl := pl_M) (by decide) v_good fl_M_ok kl_M_ok nofun (Nat.le_of_ble_eq_true rfl) ?_
  intro p e s m args below meth c X
  refine AW.run X M_move_d 0 1 rfl ?_
  refine AW.tableIn X (M_move_d.d 1 rfl) (by decide) (by decide) (off := 80) (by decide) ?_
  refine AW.run X M_move_d 25 2 rfl ?_
  refine AW.callV (As := [.int (nI 1)]) X (M_has1_m S M tl n u t hG hW hM) cb_M_363 rfl rfl M_has_im M_has_se rfl ⟨Nat.le_of_ble_eq_true rfl, Nat.le_of_ble_eq_true rfl⟩ (Nat.le_of_ble_eq_true rfl) ⟨Nat.le_of_ble_eq_true rfl, Nat.le_of_ble_eq_true rfl⟩ (M_move_d.d 27 rfl) (fun v h' q => ?_)
  rcases q with ⟨hc, rfl, rfl⟩ | ⟨hc, rfl, rfl⟩
  · have hn := ph_o hc
    refine AW.if_eq X (M_move_d.d 28 rfl) (fun q28 => absurd q28 (by decide)) (fun q28 => ?_)
    refine AW.run X M_move_d 29 7 rfl ?_
    refine AW.mll3 (j := n - 1) X (hM.i (k := 1) (by omega)) (by have := hW.1; omega) (M_move_d.d 36 rfl) ?_
    rw [(hM.2 (n - 1) (by omega)).1]
    refine AW.run X M_move_d 37 6 rfl ?_
    refine AW.ml13 (j := n - 1) X (hM.i (k := 1) (by omega)) (by have := hW.1; omega) (M_move_d.d 43 rfl) ?_
    rw [(hM.2 (n - 1) (by omega)).2]
    refine AW.callV (As := [.long (lZ (u (n - 1))), .int (bI (t (n - 1)))]) X (M_put_m S M tl n u t (u (n - 1)) (t (n - 1)) hG hW.1 hM (zN_L (hW.2 (n - 1) (by omega)).1) (fun _ => zk_id (hW.2 (n - 1) (by omega)).1)) cb_M_359 rfl rfl M_put_im M_put_se rfl ⟨Nat.le_of_ble_eq_true rfl, Nat.le_of_ble_eq_true rfl⟩ (Nat.le_of_ble_eq_true rfl) ⟨Nat.le_of_ble_eq_true rfl, Nat.le_of_ble_eq_true rfl⟩ (M_move_d.d 44 rfl) (fun v h' q => ?_)
    obtain ⟨rfl, q⟩ := q
    refine AW.goto X (M_move_d.d 45 rfl) ?_
    exact AW.vret X (M_move_d.d 54 rfl) (Nat.le_of_ble_eq_true rfl) (Nat.le_of_ble_eq_true rfl) ⟨rfl, mp_tr (MFr.refl _) (by rw [pS_33]; unfold pdup; rw [if_neg (by omega)]) q⟩
  · have hb := ph_n hc
    refine AW.if_eq X (M_move_d.d 28 rfl) (fun q28 => ?_) (fun q28 => absurd q28 (by decide))
    exact AW.vret X (M_move_d.d 54 rfl) (Nat.le_of_ble_eq_true rfl) (Nat.le_of_ble_eq_true rfl) ⟨rfl, mp_bad (by rw [pS_33]; unfold pdup; rw [if_pos hb.2, hb.1]; rfl) hc⟩

set_option maxHeartbeats 4000000 in
set_option maxRecDepth 100000 in
theorem M_move34_m {l : Launch} {G : ax_G} (S : x_S) (M : x_M) (tl : List va_E) (n : Nat) (u : Nat → Int) (t : Nat → Bool) (hG : gd M) (hW : WS n u t) (hM : MS M n u t) (num : Int) :
    AM l VV G M_move_y M_move_c 2 none 6 0 0 [.ref 153, .int 31] (x_hM S M tl) (fun v h' => v = none ∧ mp S tl M (pS 34 num n u t) h') := by
  refine AM.of (pl := pl_M) (by decide) v_good fl_M_ok kl_M_ok nofun (Nat.le_of_ble_eq_true rfl) ?_
  intro p e s m args below meth c X
  refine AW.run X M_move_d 0 1 rfl ?_
  refine AW.tableIn X (M_move_d.d 1 rfl) (by decide) (by decide) (off := 117) (by decide) ?_
  refine AW.run X M_move_d 46 1 rfl ?_
  refine AW.callV (As := []) X (M_copy_m S M tl n u t hG hW hM num) cb_M_451 rfl rfl M_copy_im M_copy_se rfl ⟨Nat.le_of_ble_eq_true rfl, Nat.le_of_ble_eq_true rfl⟩ (Nat.le_of_ble_eq_true rfl) ⟨Nat.le_of_ble_eq_true rfl, Nat.le_of_ble_eq_true rfl⟩ (M_move_d.d 47 rfl) (fun v h' q => ?_)
  obtain ⟨rfl, q⟩ := q
  refine AW.goto X (M_move_d.d 48 rfl) ?_
  exact AW.vret X (M_move_d.d 54 rfl) (Nat.le_of_ble_eq_true rfl) (Nat.le_of_ble_eq_true rfl) ⟨rfl, q⟩

set_option maxHeartbeats 4000000 in
set_option maxRecDepth 100000 in
theorem M_move35_m {l : Launch} {G : ax_G} (S : x_S) (M : x_M) (tl : List va_E) (n : Nat) (u : Nat → Int) (t : Nat → Bool) (hG : gd M) (hW : WS n u t) (hM : MS M n u t) (num : Int) :
    AM l VV G M_move_y M_move_c 2 none 6 0 0 [.ref 153, .int 32] (x_hM S M tl) (fun v h' => v = none ∧ mp S tl M (pS 35 num n u t) h') := by
  refine AM.of (pl := pl_M) (by decide) v_good fl_M_ok kl_M_ok nofun (Nat.le_of_ble_eq_true rfl) ?_
  intro p e s m args below meth c X
  refine AW.run X M_move_d 0 1 rfl ?_
  refine AW.tableIn X (M_move_d.d 1 rfl) (by decide) (by decide) (off := 124) (by decide) ?_
  refine AW.run X M_move_d 49 1 rfl ?_
  refine AW.callV (As := []) X (M_index_m S M tl n u t hG hW hM num) cb_M_453 rfl rfl M_index_im M_index_se rfl ⟨Nat.le_of_ble_eq_true rfl, Nat.le_of_ble_eq_true rfl⟩ (Nat.le_of_ble_eq_true rfl) ⟨Nat.le_of_ble_eq_true rfl, Nat.le_of_ble_eq_true rfl⟩ (M_move_d.d 50 rfl) (fun v h' q => ?_)
  obtain ⟨rfl, q⟩ := q
  refine AW.goto X (M_move_d.d 51 rfl) ?_
  exact AW.vret X (M_move_d.d 54 rfl) (Nat.le_of_ble_eq_true rfl) (Nat.le_of_ble_eq_true rfl) ⟨rfl, q⟩

set_option maxHeartbeats 4000000 in
set_option maxRecDepth 100000 in
theorem M_move36_m {l : Launch} {G : ax_G} (S : x_S) (M : x_M) (tl : List va_E) (n : Nat) (u : Nat → Int) (t : Nat → Bool) (hG : gd M) (hW : WS n u t) (hM : MS M n u t) (num : Int) :
    AM l VV G M_move_y M_move_c 2 none 6 0 0 [.ref 153, .int 33] (x_hM S M tl) (fun v h' => v = none ∧ mp S tl M (pS 36 num n u t) h') := by
  refine AM.of (pl := pl_M) (by decide) v_good fl_M_ok kl_M_ok nofun (Nat.le_of_ble_eq_true rfl) ?_
  intro p e s m args below meth c X
  refine AW.run X M_move_d 0 1 rfl ?_
  refine AW.tableOut X (M_move_d.d 1 rfl) (by decide) ?_
  refine AW.run X M_move_d 52 1 rfl ?_
  refine AW.callV (As := []) X (M_roll_m S M tl n u t hG hW hM num) cb_M_455 rfl rfl M_roll_im M_roll_se rfl ⟨Nat.le_of_ble_eq_true rfl, Nat.le_of_ble_eq_true rfl⟩ (Nat.le_of_ble_eq_true rfl) ⟨Nat.le_of_ble_eq_true rfl, Nat.le_of_ble_eq_true rfl⟩ (M_move_d.d 53 rfl) (fun v h' q => ?_)
  obtain ⟨rfl, q⟩ := q
  exact AW.vret X (M_move_d.d 54 rfl) (Nat.le_of_ble_eq_true rfl) (Nat.le_of_ble_eq_true rfl) ⟨rfl, q⟩

set_option maxHeartbeats 4000000 in
set_option maxRecDepth 100000 in
theorem M_perform5_m {l : Launch} {G : ax_G} (S : x_S) (M : x_M) (tl : List va_E) (n : Nat) (u : Nat → Int) (t : Nat → Bool) (hG : gd M) (hW : WS n u t) (hM : MS M n u t) (num : Int) :
    AM l VV G M_perform_y M_perform_c 2 none 7 0 0 [.ref 153, .int 0] (x_hM S M tl) (fun v h' => v = none ∧ mp S tl M (pS 5 num n u t) h') := by
  refine AM.of (pl := pl_M) (by decide) v_good fl_M_ok kl_M_ok nofun (Nat.le_of_ble_eq_true rfl) ?_
  intro p e s m args below meth c X
  refine AW.run X M_perform_d 0 2 rfl ?_
  refine AW.icmp_ge X (M_perform_d.d 2 rfl) (fun q2 => absurd q2 (by decide)) (fun q2 => ?_)
  refine AW.run X M_perform_d 3 2 rfl ?_
  refine AW.callV (As := [.int 0]) X (M_one5_m S M tl n u t hG hW hM num) cb_M_396 rfl rfl M_one_im M_one_se rfl ⟨Nat.le_of_ble_eq_true rfl, Nat.le_of_ble_eq_true rfl⟩ (Nat.le_of_ble_eq_true rfl) ⟨Nat.le_of_ble_eq_true rfl, Nat.le_of_ble_eq_true rfl⟩ (M_perform_d.d 5 rfl) (fun v h' q => ?_)
  obtain ⟨rfl, q⟩ := q
  refine AW.goto X (M_perform_d.d 6 rfl) ?_
  exact AW.vret X (M_perform_d.d 31 rfl) (Nat.le_of_ble_eq_true rfl) (Nat.le_of_ble_eq_true rfl) ⟨rfl, q⟩

set_option maxHeartbeats 4000000 in
set_option maxRecDepth 100000 in
theorem M_perform6_m {l : Launch} {G : ax_G} (S : x_S) (M : x_M) (tl : List va_E) (n : Nat) (u : Nat → Int) (t : Nat → Bool) (hG : gd M) (hW : WS n u t) (hM : MS M n u t) (num : Int) :
    AM l VV G M_perform_y M_perform_c 2 none 7 0 0 [.ref 153, .int 1] (x_hM S M tl) (fun v h' => v = none ∧ mp S tl M (pS 6 num n u t) h') := by
  refine AM.of (pl := pl_M) (by decide) v_good fl_M_ok kl_M_ok nofun (Nat.le_of_ble_eq_true rfl) ?_
  intro p e s m args below meth c X
  refine AW.run X M_perform_d 0 2 rfl ?_
  refine AW.icmp_ge X (M_perform_d.d 2 rfl) (fun q2 => absurd q2 (by decide)) (fun q2 => ?_)
  refine AW.run X M_perform_d 3 2 rfl ?_
  refine AW.callV (As := [.int 1]) X (M_one6_m S M tl n u t hG hW hM num) cb_M_396 rfl rfl M_one_im M_one_se rfl ⟨Nat.le_of_ble_eq_true rfl, Nat.le_of_ble_eq_true rfl⟩ (Nat.le_of_ble_eq_true rfl) ⟨Nat.le_of_ble_eq_true rfl, Nat.le_of_ble_eq_true rfl⟩ (M_perform_d.d 5 rfl) (fun v h' q => ?_)
  obtain ⟨rfl, q⟩ := q
  refine AW.goto X (M_perform_d.d 6 rfl) ?_
  exact AW.vret X (M_perform_d.d 31 rfl) (Nat.le_of_ble_eq_true rfl) (Nat.le_of_ble_eq_true rfl) ⟨rfl, q⟩

set_option maxHeartbeats 4000000 in
set_option maxRecDepth 100000 in
theorem M_perform7_m {l : Launch} {G : ax_G} (S : x_S) (M : x_M) (tl : List va_E) (n : Nat) (u : Nat → Int) (t : Nat → Bool) (hG : gd M) (hW : WS n u t) (hM : MS M n u t) (num : Int) :
    AM l VV G M_perform_y M_perform_c 2 none 7 0 0 [.ref 153, .int 2] (x_hM S M tl) (fun v h' => v = none ∧ mp S tl M (pS 7 num n u t) h') := by
  refine AM.of (pl := pl_M) (by decide) v_good fl_M_ok kl_M_ok nofun (Nat.le_of_ble_eq_true rfl) ?_
  intro p e s m args below meth c X
  refine AW.run X M_perform_d 0 2 rfl ?_
  refine AW.icmp_ge X (M_perform_d.d 2 rfl) (fun q2 => absurd q2 (by decide)) (fun q2 => ?_)
  refine AW.run X M_perform_d 3 2 rfl ?_
  refine AW.callV (As := [.int 2]) X (M_one7_m S M tl n u t hG hW hM num) cb_M_396 rfl rfl M_one_im M_one_se rfl ⟨Nat.le_of_ble_eq_true rfl, Nat.le_of_ble_eq_true rfl⟩ (Nat.le_of_ble_eq_true rfl) ⟨Nat.le_of_ble_eq_true rfl, Nat.le_of_ble_eq_true rfl⟩ (M_perform_d.d 5 rfl) (fun v h' q => ?_)
  obtain ⟨rfl, q⟩ := q
  refine AW.goto X (M_perform_d.d 6 rfl) ?_
  exact AW.vret X (M_perform_d.d 31 rfl) (Nat.le_of_ble_eq_true rfl) (Nat.le_of_ble_eq_true rfl) ⟨rfl, q⟩

set_option maxHeartbeats 4000000 in
set_option maxRecDepth 100000 in
theorem M_perform8_m {l : Launch} {G : ax_G} (S : x_S) (M : x_M) (tl : List va_E) (n : Nat) (u : Nat → Int) (t : Nat → Bool) (hG : gd M) (hW : WS n u t) (hM : MS M n u t) (num : Int) :
    AM l VV G M_perform_y M_perform_c 2 none 7 0 0 [.ref 153, .int 3] (x_hM S M tl) (fun v h' => v = none ∧ mp S tl M (pS 8 num n u t) h') := by
  refine AM.of (pl := pl_M) (by decide) v_good fl_M_ok kl_M_ok nofun (Nat.le_of_ble_eq_true rfl) ?_
  intro p e s m args below meth c X
  refine AW.run X M_perform_d 0 2 rfl ?_
  refine AW.icmp_ge X (M_perform_d.d 2 rfl) (fun q2 => absurd q2 (by decide)) (fun q2 => ?_)
  refine AW.run X M_perform_d 3 2 rfl ?_
  refine AW.callV (As := [.int 3]) X (M_one8_m S M tl n u t hG hW hM num) cb_M_396 rfl rfl M_one_im M_one_se rfl ⟨Nat.le_of_ble_eq_true rfl, Nat.le_of_ble_eq_true rfl⟩ (Nat.le_of_ble_eq_true rfl) ⟨Nat.le_of_ble_eq_true rfl, Nat.le_of_ble_eq_true rfl⟩ (M_perform_d.d 5 rfl) (fun v h' q => ?_)
  obtain ⟨rfl, q⟩ := q
  refine AW.goto X (M_perform_d.d 6 rfl) ?_
  exact AW.vret X (M_perform_d.d 31 rfl) (Nat.le_of_ble_eq_true rfl) (Nat.le_of_ble_eq_true rfl) ⟨rfl, q⟩

set_option maxHeartbeats 4000000 in
set_option maxRecDepth 100000 in
theorem M_perform9_m {l : Launch} {G : ax_G} (S : x_S) (M : x_M) (tl : List va_E) (n : Nat) (u : Nat → Int) (t : Nat → Bool) (hG : gd M) (hW : WS n u t) (hM : MS M n u t) (num : Int) :
    AM l VV G M_perform_y M_perform_c 2 none 7 0 0 [.ref 153, .int 4] (x_hM S M tl) (fun v h' => v = none ∧ mp S tl M (pS 9 num n u t) h') := by
  refine AM.of (pl := pl_M) (by decide) v_good fl_M_ok kl_M_ok nofun (Nat.le_of_ble_eq_true rfl) ?_
  intro p e s m args below meth c X
  refine AW.run X M_perform_d 0 2 rfl ?_
  refine AW.icmp_ge X (M_perform_d.d 2 rfl) (fun q2 => absurd q2 (by decide)) (fun q2 => ?_)
  refine AW.run X M_perform_d 3 2 rfl ?_
  refine AW.callV (As := [.int 4]) X (M_one9_m S M tl n u t hG hW hM num) cb_M_396 rfl rfl M_one_im M_one_se rfl ⟨Nat.le_of_ble_eq_true rfl, Nat.le_of_ble_eq_true rfl⟩ (Nat.le_of_ble_eq_true rfl) ⟨Nat.le_of_ble_eq_true rfl, Nat.le_of_ble_eq_true rfl⟩ (M_perform_d.d 5 rfl) (fun v h' q => ?_)
  obtain ⟨rfl, q⟩ := q
  refine AW.goto X (M_perform_d.d 6 rfl) ?_
  exact AW.vret X (M_perform_d.d 31 rfl) (Nat.le_of_ble_eq_true rfl) (Nat.le_of_ble_eq_true rfl) ⟨rfl, q⟩

set_option maxHeartbeats 4000000 in
set_option maxRecDepth 100000 in
theorem M_perform10_m {l : Launch} {G : ax_G} (S : x_S) (M : x_M) (tl : List va_E) (n : Nat) (u : Nat → Int) (t : Nat → Bool) (hG : gd M) (hW : WS n u t) (hM : MS M n u t) (num : Int) :
    AM l VV G M_perform_y M_perform_c 2 none 7 0 0 [.ref 153, .int 5] (x_hM S M tl) (fun v h' => v = none ∧ mp S tl M (pS 10 num n u t) h') := by
  refine AM.of (pl := pl_M) (by decide) v_good fl_M_ok kl_M_ok nofun (Nat.le_of_ble_eq_true rfl) ?_
  intro p e s m args below meth c X
  refine AW.run X M_perform_d 0 2 rfl ?_
  refine AW.icmp_ge X (M_perform_d.d 2 rfl) (fun q2 => absurd q2 (by decide)) (fun q2 => ?_)
  refine AW.run X M_perform_d 3 2 rfl ?_
  refine AW.callV (As := [.int 5]) X (M_one10_m S M tl n u t hG hW hM num) cb_M_396 rfl rfl M_one_im M_one_se rfl ⟨Nat.le_of_ble_eq_true rfl, Nat.le_of_ble_eq_true rfl⟩ (Nat.le_of_ble_eq_true rfl) ⟨Nat.le_of_ble_eq_true rfl, Nat.le_of_ble_eq_true rfl⟩ (M_perform_d.d 5 rfl) (fun v h' q => ?_)
  obtain ⟨rfl, q⟩ := q
  refine AW.goto X (M_perform_d.d 6 rfl) ?_
  exact AW.vret X (M_perform_d.d 31 rfl) (Nat.le_of_ble_eq_true rfl) (Nat.le_of_ble_eq_true rfl) ⟨rfl, q⟩

set_option maxHeartbeats 4000000 in
set_option maxRecDepth 100000 in
theorem M_perform11_m {l : Launch} {G : ax_G} (S : x_S) (M : x_M) (tl : List va_E) (n : Nat) (u : Nat → Int) (t : Nat → Bool) (hG : gd M) (hW : WS n u t) (hM : MS M n u t) (num : Int) :
    AM l VV G M_perform_y M_perform_c 2 none 7 0 0 [.ref 153, .int 6] (x_hM S M tl) (fun v h' => v = none ∧ mp S tl M (pS 11 num n u t) h') := by
  refine AM.of (pl := pl_M) (by decide) v_good fl_M_ok kl_M_ok nofun (Nat.le_of_ble_eq_true rfl) ?_
  intro p e s m args below meth c X
  refine AW.run X M_perform_d 0 2 rfl ?_
  refine AW.icmp_ge X (M_perform_d.d 2 rfl) (fun q2 => absurd q2 (by decide)) (fun q2 => ?_)
  refine AW.run X M_perform_d 3 2 rfl ?_
  refine AW.callV (As := [.int 6]) X (M_one11_m S M tl n u t hG hW hM num) cb_M_396 rfl rfl M_one_im M_one_se rfl ⟨Nat.le_of_ble_eq_true rfl, Nat.le_of_ble_eq_true rfl⟩ (Nat.le_of_ble_eq_true rfl) ⟨Nat.le_of_ble_eq_true rfl, Nat.le_of_ble_eq_true rfl⟩ (M_perform_d.d 5 rfl) (fun v h' q => ?_)
  obtain ⟨rfl, q⟩ := q
  refine AW.goto X (M_perform_d.d 6 rfl) ?_
  exact AW.vret X (M_perform_d.d 31 rfl) (Nat.le_of_ble_eq_true rfl) (Nat.le_of_ble_eq_true rfl) ⟨rfl, q⟩

set_option maxHeartbeats 4000000 in
set_option maxRecDepth 100000 in
theorem M_perform12_m {l : Launch} {G : ax_G} (S : x_S) (M : x_M) (tl : List va_E) (n : Nat) (u : Nat → Int) (t : Nat → Bool) (hG : gd M) (hW : WS n u t) (hM : MS M n u t) (num : Int) :
    AM l VV G M_perform_y M_perform_c 2 none 7 0 0 [.ref 153, .int 7] (x_hM S M tl) (fun v h' => v = none ∧ mp S tl M (pS 12 num n u t) h') := by
  refine AM.of (pl := pl_M) (by decide) v_good fl_M_ok kl_M_ok nofun (Nat.le_of_ble_eq_true rfl) ?_
  intro p e s m args below meth c X
  refine AW.run X M_perform_d 0 2 rfl ?_
  refine AW.icmp_ge X (M_perform_d.d 2 rfl) (fun q2 => absurd q2 (by decide)) (fun q2 => ?_)
  refine AW.run X M_perform_d 3 2 rfl ?_
  refine AW.callV (As := [.int 7]) X (M_one12_m S M tl n u t hG hW hM num) cb_M_396 rfl rfl M_one_im M_one_se rfl ⟨Nat.le_of_ble_eq_true rfl, Nat.le_of_ble_eq_true rfl⟩ (Nat.le_of_ble_eq_true rfl) ⟨Nat.le_of_ble_eq_true rfl, Nat.le_of_ble_eq_true rfl⟩ (M_perform_d.d 5 rfl) (fun v h' q => ?_)
  obtain ⟨rfl, q⟩ := q
  refine AW.goto X (M_perform_d.d 6 rfl) ?_
  exact AW.vret X (M_perform_d.d 31 rfl) (Nat.le_of_ble_eq_true rfl) (Nat.le_of_ble_eq_true rfl) ⟨rfl, q⟩

set_option maxHeartbeats 4000000 in
set_option maxRecDepth 100000 in
theorem M_perform13_m {l : Launch} {G : ax_G} (S : x_S) (M : x_M) (tl : List va_E) (n : Nat) (u : Nat → Int) (t : Nat → Bool) (hG : gd M) (hW : WS n u t) (hM : MS M n u t) (num : Int) :
    AM l VV G M_perform_y M_perform_c 2 none 7 0 0 [.ref 153, .int 8] (x_hM S M tl) (fun v h' => v = none ∧ mp S tl M (pS 13 num n u t) h') := by
  refine AM.of (pl := pl_M) (by decide) v_good fl_M_ok kl_M_ok nofun (Nat.le_of_ble_eq_true rfl) ?_
  intro p e s m args below meth c X
  refine AW.run X M_perform_d 0 2 rfl ?_
  refine AW.icmp_ge X (M_perform_d.d 2 rfl) (fun q2 => absurd q2 (by decide)) (fun q2 => ?_)
  refine AW.run X M_perform_d 3 2 rfl ?_
  refine AW.callV (As := [.int 8]) X (M_one13_m S M tl n u t hG hW hM num) cb_M_396 rfl rfl M_one_im M_one_se rfl ⟨Nat.le_of_ble_eq_true rfl, Nat.le_of_ble_eq_true rfl⟩ (Nat.le_of_ble_eq_true rfl) ⟨Nat.le_of_ble_eq_true rfl, Nat.le_of_ble_eq_true rfl⟩ (M_perform_d.d 5 rfl) (fun v h' q => ?_)
  obtain ⟨rfl, q⟩ := q
  refine AW.goto X (M_perform_d.d 6 rfl) ?_
  exact AW.vret X (M_perform_d.d 31 rfl) (Nat.le_of_ble_eq_true rfl) (Nat.le_of_ble_eq_true rfl) ⟨rfl, q⟩

set_option maxHeartbeats 4000000 in
set_option maxRecDepth 100000 in
theorem M_perform14_m {l : Launch} {G : ax_G} (S : x_S) (M : x_M) (tl : List va_E) (n : Nat) (u : Nat → Int) (t : Nat → Bool) (hG : gd M) (hW : WS n u t) (hM : MS M n u t) (num : Int) :
    AM l VV G M_perform_y M_perform_c 2 none 7 0 0 [.ref 153, .int 9] (x_hM S M tl) (fun v h' => v = none ∧ mp S tl M (pS 14 num n u t) h') := by
  refine AM.of (pl := pl_M) (by decide) v_good fl_M_ok kl_M_ok nofun (Nat.le_of_ble_eq_true rfl) ?_
  intro p e s m args below meth c X
  refine AW.run X M_perform_d 0 2 rfl ?_
  refine AW.icmp_ge X (M_perform_d.d 2 rfl) (fun q2 => ?_) (fun q2 => absurd q2 (by decide))
  refine AW.run X M_perform_d 7 2 rfl ?_
  refine AW.icmp_ge X (M_perform_d.d 9 rfl) (fun q9 => absurd q9 (by decide)) (fun q9 => ?_)
  refine AW.run X M_perform_d 10 2 rfl ?_
  refine AW.callV (As := [.int 9]) X (M_two14_m S M tl n u t hG hW hM num) cb_M_399 rfl rfl M_two_im M_two_se rfl ⟨Nat.le_of_ble_eq_true rfl, Nat.le_of_ble_eq_true rfl⟩ (Nat.le_of_ble_eq_true rfl) ⟨Nat.le_of_ble_eq_true rfl, Nat.le_of_ble_eq_true rfl⟩ (M_perform_d.d 12 rfl) (fun v h' q => ?_)
  obtain ⟨rfl, q⟩ := q
  refine AW.goto X (M_perform_d.d 13 rfl) ?_
  exact AW.vret X (M_perform_d.d 31 rfl) (Nat.le_of_ble_eq_true rfl) (Nat.le_of_ble_eq_true rfl) ⟨rfl, q⟩

set_option maxHeartbeats 4000000 in
set_option maxRecDepth 100000 in
theorem M_perform15_m {l : Launch} {G : ax_G} (S : x_S) (M : x_M) (tl : List va_E) (n : Nat) (u : Nat → Int) (t : Nat → Bool) (hG : gd M) (hW : WS n u t) (hM : MS M n u t) (num : Int) :
    AM l VV G M_perform_y M_perform_c 2 none 7 0 0 [.ref 153, .int 10] (x_hM S M tl) (fun v h' => v = none ∧ mp S tl M (pS 15 num n u t) h') := by
  refine AM.of (pl := pl_M) (by decide) v_good fl_M_ok kl_M_ok nofun (Nat.le_of_ble_eq_true rfl) ?_
  intro p e s m args below meth c X
  refine AW.run X M_perform_d 0 2 rfl ?_
  refine AW.icmp_ge X (M_perform_d.d 2 rfl) (fun q2 => ?_) (fun q2 => absurd q2 (by decide))
  refine AW.run X M_perform_d 7 2 rfl ?_
  refine AW.icmp_ge X (M_perform_d.d 9 rfl) (fun q9 => absurd q9 (by decide)) (fun q9 => ?_)
  refine AW.run X M_perform_d 10 2 rfl ?_
  refine AW.callV (As := [.int 10]) X (M_two15_m S M tl n u t hG hW hM num) cb_M_399 rfl rfl M_two_im M_two_se rfl ⟨Nat.le_of_ble_eq_true rfl, Nat.le_of_ble_eq_true rfl⟩ (Nat.le_of_ble_eq_true rfl) ⟨Nat.le_of_ble_eq_true rfl, Nat.le_of_ble_eq_true rfl⟩ (M_perform_d.d 12 rfl) (fun v h' q => ?_)
  obtain ⟨rfl, q⟩ := q
  refine AW.goto X (M_perform_d.d 13 rfl) ?_
  exact AW.vret X (M_perform_d.d 31 rfl) (Nat.le_of_ble_eq_true rfl) (Nat.le_of_ble_eq_true rfl) ⟨rfl, q⟩

set_option maxHeartbeats 4000000 in
set_option maxRecDepth 100000 in
theorem M_perform16_m {l : Launch} {G : ax_G} (S : x_S) (M : x_M) (tl : List va_E) (n : Nat) (u : Nat → Int) (t : Nat → Bool) (hG : gd M) (hW : WS n u t) (hM : MS M n u t) (num : Int) :
    AM l VV G M_perform_y M_perform_c 2 none 7 0 0 [.ref 153, .int 11] (x_hM S M tl) (fun v h' => v = none ∧ mp S tl M (pS 16 num n u t) h') := by
  refine AM.of (pl := pl_M) (by decide) v_good fl_M_ok kl_M_ok nofun (Nat.le_of_ble_eq_true rfl) ?_
  intro p e s m args below meth c X
  refine AW.run X M_perform_d 0 2 rfl ?_
  refine AW.icmp_ge X (M_perform_d.d 2 rfl) (fun q2 => ?_) (fun q2 => absurd q2 (by decide))
  refine AW.run X M_perform_d 7 2 rfl ?_
  refine AW.icmp_ge X (M_perform_d.d 9 rfl) (fun q9 => absurd q9 (by decide)) (fun q9 => ?_)
  refine AW.run X M_perform_d 10 2 rfl ?_
  refine AW.callV (As := [.int 11]) X (M_two16_m S M tl n u t hG hW hM num) cb_M_399 rfl rfl M_two_im M_two_se rfl ⟨Nat.le_of_ble_eq_true rfl, Nat.le_of_ble_eq_true rfl⟩ (Nat.le_of_ble_eq_true rfl) ⟨Nat.le_of_ble_eq_true rfl, Nat.le_of_ble_eq_true rfl⟩ (M_perform_d.d 12 rfl) (fun v h' q => ?_)
  obtain ⟨rfl, q⟩ := q
  refine AW.goto X (M_perform_d.d 13 rfl) ?_
  exact AW.vret X (M_perform_d.d 31 rfl) (Nat.le_of_ble_eq_true rfl) (Nat.le_of_ble_eq_true rfl) ⟨rfl, q⟩

set_option maxHeartbeats 4000000 in
set_option maxRecDepth 100000 in
theorem M_perform17_m {l : Launch} {G : ax_G} (S : x_S) (M : x_M) (tl : List va_E) (n : Nat) (u : Nat → Int) (t : Nat → Bool) (hG : gd M) (hW : WS n u t) (hM : MS M n u t) (num : Int) :
    AM l VV G M_perform_y M_perform_c 2 none 7 0 0 [.ref 153, .int 12] (x_hM S M tl) (fun v h' => v = none ∧ mp S tl M (pS 17 num n u t) h') := by
  refine AM.of (pl := pl_M) (by decide) v_good fl_M_ok kl_M_ok nofun (Nat.le_of_ble_eq_true rfl) ?_
  intro p e s m args below meth c X
  refine AW.run X M_perform_d 0 2 rfl ?_
  refine AW.icmp_ge X (M_perform_d.d 2 rfl) (fun q2 => ?_) (fun q2 => absurd q2 (by decide))
  refine AW.run X M_perform_d 7 2 rfl ?_
  refine AW.icmp_ge X (M_perform_d.d 9 rfl) (fun q9 => absurd q9 (by decide)) (fun q9 => ?_)
  refine AW.run X M_perform_d 10 2 rfl ?_
  refine AW.callV (As := [.int 12]) X (M_two17_m S M tl n u t hG hW hM num) cb_M_399 rfl rfl M_two_im M_two_se rfl ⟨Nat.le_of_ble_eq_true rfl, Nat.le_of_ble_eq_true rfl⟩ (Nat.le_of_ble_eq_true rfl) ⟨Nat.le_of_ble_eq_true rfl, Nat.le_of_ble_eq_true rfl⟩ (M_perform_d.d 12 rfl) (fun v h' q => ?_)
  obtain ⟨rfl, q⟩ := q
  refine AW.goto X (M_perform_d.d 13 rfl) ?_
  exact AW.vret X (M_perform_d.d 31 rfl) (Nat.le_of_ble_eq_true rfl) (Nat.le_of_ble_eq_true rfl) ⟨rfl, q⟩

set_option maxHeartbeats 4000000 in
set_option maxRecDepth 100000 in
theorem M_perform18_m {l : Launch} {G : ax_G} (S : x_S) (M : x_M) (tl : List va_E) (n : Nat) (u : Nat → Int) (t : Nat → Bool) (hG : gd M) (hW : WS n u t) (hM : MS M n u t) (num : Int) :
    AM l VV G M_perform_y M_perform_c 2 none 7 0 0 [.ref 153, .int 13] (x_hM S M tl) (fun v h' => v = none ∧ mp S tl M (pS 18 num n u t) h') := by
  refine AM.of (pl := pl_M) (by decide) v_good fl_M_ok kl_M_ok nofun (Nat.le_of_ble_eq_true rfl) ?_
  intro p e s m args below meth c X
  refine AW.run X M_perform_d 0 2 rfl ?_
  refine AW.icmp_ge X (M_perform_d.d 2 rfl) (fun q2 => ?_) (fun q2 => absurd q2 (by decide))
  refine AW.run X M_perform_d 7 2 rfl ?_
  refine AW.icmp_ge X (M_perform_d.d 9 rfl) (fun q9 => absurd q9 (by decide)) (fun q9 => ?_)
  refine AW.run X M_perform_d 10 2 rfl ?_
  refine AW.callV (As := [.int 13]) X (M_two18_m S M tl n u t hG hW hM num) cb_M_399 rfl rfl M_two_im M_two_se rfl ⟨Nat.le_of_ble_eq_true rfl, Nat.le_of_ble_eq_true rfl⟩ (Nat.le_of_ble_eq_true rfl) ⟨Nat.le_of_ble_eq_true rfl, Nat.le_of_ble_eq_true rfl⟩ (M_perform_d.d 12 rfl) (fun v h' q => ?_)
  obtain ⟨rfl, q⟩ := q
  refine AW.goto X (M_perform_d.d 13 rfl) ?_
  exact AW.vret X (M_perform_d.d 31 rfl) (Nat.le_of_ble_eq_true rfl) (Nat.le_of_ble_eq_true rfl) ⟨rfl, q⟩

set_option maxHeartbeats 4000000 in
set_option maxRecDepth 100000 in
theorem M_perform19_m {l : Launch} {G : ax_G} (S : x_S) (M : x_M) (tl : List va_E) (n : Nat) (u : Nat → Int) (t : Nat → Bool) (hG : gd M) (hW : WS n u t) (hM : MS M n u t) (num : Int) :
    AM l VV G M_perform_y M_perform_c 2 none 7 0 0 [.ref 153, .int 14] (x_hM S M tl) (fun v h' => v = none ∧ mp S tl M (pS 19 num n u t) h') := by
  refine AM.of (pl := pl_M) (by decide) v_good fl_M_ok kl_M_ok nofun (Nat.le_of_ble_eq_true rfl) ?_
  intro p e s m args below meth c X
  refine AW.run X M_perform_d 0 2 rfl ?_
  refine AW.icmp_ge X (M_perform_d.d 2 rfl) (fun q2 => ?_) (fun q2 => absurd q2 (by decide))
  refine AW.run X M_perform_d 7 2 rfl ?_
  refine AW.icmp_ge X (M_perform_d.d 9 rfl) (fun q9 => absurd q9 (by decide)) (fun q9 => ?_)
  refine AW.run X M_perform_d 10 2 rfl ?_
  refine AW.callV (As := [.int 14]) X (M_two19_m S M tl n u t hG hW hM num) cb_M_399 rfl rfl M_two_im M_two_se rfl ⟨Nat.le_of_ble_eq_true rfl, Nat.le_of_ble_eq_true rfl⟩ (Nat.le_of_ble_eq_true rfl) ⟨Nat.le_of_ble_eq_true rfl, Nat.le_of_ble_eq_true rfl⟩ (M_perform_d.d 12 rfl) (fun v h' q => ?_)
  obtain ⟨rfl, q⟩ := q
  refine AW.goto X (M_perform_d.d 13 rfl) ?_
  exact AW.vret X (M_perform_d.d 31 rfl) (Nat.le_of_ble_eq_true rfl) (Nat.le_of_ble_eq_true rfl) ⟨rfl, q⟩

set_option maxHeartbeats 4000000 in
set_option maxRecDepth 100000 in
theorem M_perform21_m {l : Launch} {G : ax_G} (S : x_S) (M : x_M) (tl : List va_E) (n : Nat) (u : Nat → Int) (t : Nat → Bool) (hG : gd M) (hW : WS n u t) (hM : MS M n u t) (num : Int) :
    AM l VV G M_perform_y M_perform_c 2 none 7 0 0 [.ref 153, .int 15] (x_hM S M tl) (fun v h' => v = none ∧ mp S tl M (pS 21 num n u t) h') := by
  refine AM.of (pl := pl_M) (by decide) v_good fl_M_ok kl_M_ok nofun (Nat.le_of_ble_eq_true rfl) ?_
  intro p e s m args below meth c X
  refine AW.run X M_perform_d 0 2 rfl ?_
  refine AW.icmp_ge X (M_perform_d.d 2 rfl) (fun q2 => ?_) (fun q2 => absurd q2 (by decide))
  refine AW.run X M_perform_d 7 2 rfl ?_
  refine AW.icmp_ge X (M_perform_d.d 9 rfl) (fun q9 => ?_) (fun q9 => absurd q9 (by decide))
  refine AW.run X M_perform_d 14 2 rfl ?_
  refine AW.icmp_ge X (M_perform_d.d 16 rfl) (fun q16 => absurd q16 (by decide)) (fun q16 => ?_)
  refine AW.run X M_perform_d 17 2 rfl ?_
  refine AW.callV (As := [.int 15]) X (M_compare21_m S M tl n u t hG hW hM num) cb_M_402 rfl rfl M_compare_im M_compare_se rfl ⟨Nat.le_of_ble_eq_true rfl, Nat.le_of_ble_eq_true rfl⟩ (Nat.le_of_ble_eq_true rfl) ⟨Nat.le_of_ble_eq_true rfl, Nat.le_of_ble_eq_true rfl⟩ (M_perform_d.d 19 rfl) (fun v h' q => ?_)
  obtain ⟨rfl, q⟩ := q
  refine AW.goto X (M_perform_d.d 20 rfl) ?_
  exact AW.vret X (M_perform_d.d 31 rfl) (Nat.le_of_ble_eq_true rfl) (Nat.le_of_ble_eq_true rfl) ⟨rfl, q⟩

set_option maxHeartbeats 4000000 in
set_option maxRecDepth 100000 in
theorem M_perform22_m {l : Launch} {G : ax_G} (S : x_S) (M : x_M) (tl : List va_E) (n : Nat) (u : Nat → Int) (t : Nat → Bool) (hG : gd M) (hW : WS n u t) (hM : MS M n u t) (num : Int) :
    AM l VV G M_perform_y M_perform_c 2 none 7 0 0 [.ref 153, .int 16] (x_hM S M tl) (fun v h' => v = none ∧ mp S tl M (pS 22 num n u t) h') := by
  refine AM.of (pl := pl_M) (by decide) v_good fl_M_ok kl_M_ok nofun (Nat.le_of_ble_eq_true rfl) ?_
  intro p e s m args below meth c X
  refine AW.run X M_perform_d 0 2 rfl ?_
  refine AW.icmp_ge X (M_perform_d.d 2 rfl) (fun q2 => ?_) (fun q2 => absurd q2 (by decide))
  refine AW.run X M_perform_d 7 2 rfl ?_
  refine AW.icmp_ge X (M_perform_d.d 9 rfl) (fun q9 => ?_) (fun q9 => absurd q9 (by decide))
  refine AW.run X M_perform_d 14 2 rfl ?_
  refine AW.icmp_ge X (M_perform_d.d 16 rfl) (fun q16 => absurd q16 (by decide)) (fun q16 => ?_)
  refine AW.run X M_perform_d 17 2 rfl ?_
  refine AW.callV (As := [.int 16]) X (M_compare22_m S M tl n u t hG hW hM num) cb_M_402 rfl rfl M_compare_im M_compare_se rfl ⟨Nat.le_of_ble_eq_true rfl, Nat.le_of_ble_eq_true rfl⟩ (Nat.le_of_ble_eq_true rfl) ⟨Nat.le_of_ble_eq_true rfl, Nat.le_of_ble_eq_true rfl⟩ (M_perform_d.d 19 rfl) (fun v h' q => ?_)
  obtain ⟨rfl, q⟩ := q
  refine AW.goto X (M_perform_d.d 20 rfl) ?_
  exact AW.vret X (M_perform_d.d 31 rfl) (Nat.le_of_ble_eq_true rfl) (Nat.le_of_ble_eq_true rfl) ⟨rfl, q⟩

set_option maxHeartbeats 4000000 in
set_option maxRecDepth 100000 in
theorem M_perform23_m {l : Launch} {G : ax_G} (S : x_S) (M : x_M) (tl : List va_E) (n : Nat) (u : Nat → Int) (t : Nat → Bool) (hG : gd M) (hW : WS n u t) (hM : MS M n u t) (num : Int) :
    AM l VV G M_perform_y M_perform_c 2 none 7 0 0 [.ref 153, .int 17] (x_hM S M tl) (fun v h' => v = none ∧ mp S tl M (pS 23 num n u t) h') := by
  refine AM.of (pl := pl_M) (by decide) v_good fl_M_ok kl_M_ok nofun (Nat.le_of_ble_eq_true rfl) ?_
  intro p e s m args below meth c X
  refine AW.run X M_perform_d 0 2 rfl ?_
  refine AW.icmp_ge X (M_perform_d.d 2 rfl) (fun q2 => ?_) (fun q2 => absurd q2 (by decide))
  refine AW.run X M_perform_d 7 2 rfl ?_
  refine AW.icmp_ge X (M_perform_d.d 9 rfl) (fun q9 => ?_) (fun q9 => absurd q9 (by decide))
  refine AW.run X M_perform_d 14 2 rfl ?_
  refine AW.icmp_ge X (M_perform_d.d 16 rfl) (fun q16 => absurd q16 (by decide)) (fun q16 => ?_)
  refine AW.run X M_perform_d 17 2 rfl ?_
  refine AW.callV (As := [.int 17]) X (M_compare23_m S M tl n u t hG hW hM num) cb_M_402 rfl rfl M_compare_im M_compare_se rfl ⟨Nat.le_of_ble_eq_true rfl, Nat.le_of_ble_eq_true rfl⟩ (Nat.le_of_ble_eq_true rfl) ⟨Nat.le_of_ble_eq_true rfl, Nat.le_of_ble_eq_true rfl⟩ (M_perform_d.d 19 rfl) (fun v h' q => ?_)
  obtain ⟨rfl, q⟩ := q
  refine AW.goto X (M_perform_d.d 20 rfl) ?_
  exact AW.vret X (M_perform_d.d 31 rfl) (Nat.le_of_ble_eq_true rfl) (Nat.le_of_ble_eq_true rfl) ⟨rfl, q⟩

set_option maxHeartbeats 4000000 in
set_option maxRecDepth 100000 in
theorem M_perform24_m {l : Launch} {G : ax_G} (S : x_S) (M : x_M) (tl : List va_E) (n : Nat) (u : Nat → Int) (t : Nat → Bool) (hG : gd M) (hW : WS n u t) (hM : MS M n u t) (num : Int) :
    AM l VV G M_perform_y M_perform_c 2 none 7 0 0 [.ref 153, .int 18] (x_hM S M tl) (fun v h' => v = none ∧ mp S tl M (pS 24 num n u t) h') := by
  refine AM.of (pl := pl_M) (by decide) v_good fl_M_ok kl_M_ok nofun (Nat.le_of_ble_eq_true rfl) ?_
  intro p e s m args below meth c X
  refine AW.run X M_perform_d 0 2 rfl ?_
  refine AW.icmp_ge X (M_perform_d.d 2 rfl) (fun q2 => ?_) (fun q2 => absurd q2 (by decide))
  refine AW.run X M_perform_d 7 2 rfl ?_
  refine AW.icmp_ge X (M_perform_d.d 9 rfl) (fun q9 => ?_) (fun q9 => absurd q9 (by decide))
  refine AW.run X M_perform_d 14 2 rfl ?_
  refine AW.icmp_ge X (M_perform_d.d 16 rfl) (fun q16 => absurd q16 (by decide)) (fun q16 => ?_)
  refine AW.run X M_perform_d 17 2 rfl ?_
  refine AW.callV (As := [.int 18]) X (M_compare24_m S M tl n u t hG hW hM num) cb_M_402 rfl rfl M_compare_im M_compare_se rfl ⟨Nat.le_of_ble_eq_true rfl, Nat.le_of_ble_eq_true rfl⟩ (Nat.le_of_ble_eq_true rfl) ⟨Nat.le_of_ble_eq_true rfl, Nat.le_of_ble_eq_true rfl⟩ (M_perform_d.d 19 rfl) (fun v h' q => ?_)
  obtain ⟨rfl, q⟩ := q
  refine AW.goto X (M_perform_d.d 20 rfl) ?_
  exact AW.vret X (M_perform_d.d 31 rfl) (Nat.le_of_ble_eq_true rfl) (Nat.le_of_ble_eq_true rfl) ⟨rfl, q⟩

set_option maxHeartbeats 4000000 in
set_option maxRecDepth 100000 in
theorem M_perform25_m {l : Launch} {G : ax_G} (S : x_S) (M : x_M) (tl : List va_E) (n : Nat) (u : Nat → Int) (t : Nat → Bool) (hG : gd M) (hW : WS n u t) (hM : MS M n u t) (num : Int) :
    AM l VV G M_perform_y M_perform_c 2 none 7 0 0 [.ref 153, .int 19] (x_hM S M tl) (fun v h' => v = none ∧ mp S tl M (pS 25 num n u t) h') := by
  refine AM.of (pl := pl_M) (by decide) v_good fl_M_ok kl_M_ok nofun (Nat.le_of_ble_eq_true rfl) ?_
  intro p e s m args below meth c X
  refine AW.run X M_perform_d 0 2 rfl ?_
  refine AW.icmp_ge X (M_perform_d.d 2 rfl) (fun q2 => ?_) (fun q2 => absurd q2 (by decide))
  refine AW.run X M_perform_d 7 2 rfl ?_
  refine AW.icmp_ge X (M_perform_d.d 9 rfl) (fun q9 => ?_) (fun q9 => absurd q9 (by decide))
  refine AW.run X M_perform_d 14 2 rfl ?_
  refine AW.icmp_ge X (M_perform_d.d 16 rfl) (fun q16 => absurd q16 (by decide)) (fun q16 => ?_)
  refine AW.run X M_perform_d 17 2 rfl ?_
  refine AW.callV (As := [.int 19]) X (M_compare25_m S M tl n u t hG hW hM num) cb_M_402 rfl rfl M_compare_im M_compare_se rfl ⟨Nat.le_of_ble_eq_true rfl, Nat.le_of_ble_eq_true rfl⟩ (Nat.le_of_ble_eq_true rfl) ⟨Nat.le_of_ble_eq_true rfl, Nat.le_of_ble_eq_true rfl⟩ (M_perform_d.d 19 rfl) (fun v h' q => ?_)
  obtain ⟨rfl, q⟩ := q
  refine AW.goto X (M_perform_d.d 20 rfl) ?_
  exact AW.vret X (M_perform_d.d 31 rfl) (Nat.le_of_ble_eq_true rfl) (Nat.le_of_ble_eq_true rfl) ⟨rfl, q⟩

set_option maxHeartbeats 4000000 in
set_option maxRecDepth 100000 in
theorem M_perform26_m {l : Launch} {G : ax_G} (S : x_S) (M : x_M) (tl : List va_E) (n : Nat) (u : Nat → Int) (t : Nat → Bool) (hG : gd M) (hW : WS n u t) (hM : MS M n u t) (num : Int) :
    AM l VV G M_perform_y M_perform_c 2 none 7 0 0 [.ref 153, .int 20] (x_hM S M tl) (fun v h' => v = none ∧ mp S tl M (pS 26 num n u t) h') := by
  refine AM.of (pl := pl_M) (by decide) v_good fl_M_ok kl_M_ok nofun (Nat.le_of_ble_eq_true rfl) ?_
  intro p e s m args below meth c X
  refine AW.run X M_perform_d 0 2 rfl ?_
  refine AW.icmp_ge X (M_perform_d.d 2 rfl) (fun q2 => ?_) (fun q2 => absurd q2 (by decide))
  refine AW.run X M_perform_d 7 2 rfl ?_
  refine AW.icmp_ge X (M_perform_d.d 9 rfl) (fun q9 => ?_) (fun q9 => absurd q9 (by decide))
  refine AW.run X M_perform_d 14 2 rfl ?_
  refine AW.icmp_ge X (M_perform_d.d 16 rfl) (fun q16 => absurd q16 (by decide)) (fun q16 => ?_)
  refine AW.run X M_perform_d 17 2 rfl ?_
  refine AW.callV (As := [.int 20]) X (M_compare26_m S M tl n u t hG hW hM num) cb_M_402 rfl rfl M_compare_im M_compare_se rfl ⟨Nat.le_of_ble_eq_true rfl, Nat.le_of_ble_eq_true rfl⟩ (Nat.le_of_ble_eq_true rfl) ⟨Nat.le_of_ble_eq_true rfl, Nat.le_of_ble_eq_true rfl⟩ (M_perform_d.d 19 rfl) (fun v h' q => ?_)
  obtain ⟨rfl, q⟩ := q
  refine AW.goto X (M_perform_d.d 20 rfl) ?_
  exact AW.vret X (M_perform_d.d 31 rfl) (Nat.le_of_ble_eq_true rfl) (Nat.le_of_ble_eq_true rfl) ⟨rfl, q⟩

set_option maxHeartbeats 4000000 in
set_option maxRecDepth 100000 in
theorem M_perform3_m {l : Launch} {G : ax_G} (S : x_S) (M : x_M) (tl : List va_E) (n : Nat) (u : Nat → Int) (t : Nat → Bool) (hG : gd M) (hW : WS n u t) (hM : MS M n u t) (num : Int) :
    AM l VV G M_perform_y M_perform_c 2 none 7 0 0 [.ref 153, .int 21] (x_hM S M tl) (fun v h' => v = none ∧ mp S tl M (pS 3 num n u t) h') := by
  refine AM.of (pl := pl_M) (by decide) v_good fl_M_ok kl_M_ok nofun (Nat.le_of_ble_eq_true rfl) ?_
  intro p e s m args below meth c X
  refine AW.run X M_perform_d 0 2 rfl ?_
  refine AW.icmp_ge X (M_perform_d.d 2 rfl) (fun q2 => ?_) (fun q2 => absurd q2 (by decide))
  refine AW.run X M_perform_d 7 2 rfl ?_
  refine AW.icmp_ge X (M_perform_d.d 9 rfl) (fun q9 => ?_) (fun q9 => absurd q9 (by decide))
  refine AW.run X M_perform_d 14 2 rfl ?_
  refine AW.icmp_ge X (M_perform_d.d 16 rfl) (fun q16 => ?_) (fun q16 => absurd q16 (by decide))
  refine AW.run X M_perform_d 21 2 rfl ?_
  refine AW.icmp_ge X (M_perform_d.d 23 rfl) (fun q23 => absurd q23 (by decide)) (fun q23 => ?_)
  refine AW.run X M_perform_d 24 2 rfl ?_
  refine AW.callV (As := [.int 21]) X (M_bits3_m S M tl n u t hG hW hM num) cb_M_405 rfl rfl M_bits_im M_bits_se rfl ⟨Nat.le_of_ble_eq_true rfl, Nat.le_of_ble_eq_true rfl⟩ (Nat.le_of_ble_eq_true rfl) ⟨Nat.le_of_ble_eq_true rfl, Nat.le_of_ble_eq_true rfl⟩ (M_perform_d.d 26 rfl) (fun v h' q => ?_)
  obtain ⟨rfl, q⟩ := q
  refine AW.goto X (M_perform_d.d 27 rfl) ?_
  exact AW.vret X (M_perform_d.d 31 rfl) (Nat.le_of_ble_eq_true rfl) (Nat.le_of_ble_eq_true rfl) ⟨rfl, q⟩

set_option maxHeartbeats 4000000 in
set_option maxRecDepth 100000 in
theorem M_perform4_m {l : Launch} {G : ax_G} (S : x_S) (M : x_M) (tl : List va_E) (n : Nat) (u : Nat → Int) (t : Nat → Bool) (hG : gd M) (hW : WS n u t) (hM : MS M n u t) (num : Int) :
    AM l VV G M_perform_y M_perform_c 2 none 7 0 0 [.ref 153, .int 22] (x_hM S M tl) (fun v h' => v = none ∧ mp S tl M (pS 4 num n u t) h') := by
  refine AM.of (pl := pl_M) (by decide) v_good fl_M_ok kl_M_ok nofun (Nat.le_of_ble_eq_true rfl) ?_
  intro p e s m args below meth c X
  refine AW.run X M_perform_d 0 2 rfl ?_
  refine AW.icmp_ge X (M_perform_d.d 2 rfl) (fun q2 => ?_) (fun q2 => absurd q2 (by decide))
  refine AW.run X M_perform_d 7 2 rfl ?_
  refine AW.icmp_ge X (M_perform_d.d 9 rfl) (fun q9 => ?_) (fun q9 => absurd q9 (by decide))
  refine AW.run X M_perform_d 14 2 rfl ?_
  refine AW.icmp_ge X (M_perform_d.d 16 rfl) (fun q16 => ?_) (fun q16 => absurd q16 (by decide))
  refine AW.run X M_perform_d 21 2 rfl ?_
  refine AW.icmp_ge X (M_perform_d.d 23 rfl) (fun q23 => absurd q23 (by decide)) (fun q23 => ?_)
  refine AW.run X M_perform_d 24 2 rfl ?_
  refine AW.callV (As := [.int 22]) X (M_bits4_m S M tl n u t hG hW hM num) cb_M_405 rfl rfl M_bits_im M_bits_se rfl ⟨Nat.le_of_ble_eq_true rfl, Nat.le_of_ble_eq_true rfl⟩ (Nat.le_of_ble_eq_true rfl) ⟨Nat.le_of_ble_eq_true rfl, Nat.le_of_ble_eq_true rfl⟩ (M_perform_d.d 26 rfl) (fun v h' q => ?_)
  obtain ⟨rfl, q⟩ := q
  refine AW.goto X (M_perform_d.d 27 rfl) ?_
  exact AW.vret X (M_perform_d.d 31 rfl) (Nat.le_of_ble_eq_true rfl) (Nat.le_of_ble_eq_true rfl) ⟨rfl, q⟩

set_option maxHeartbeats 4000000 in
set_option maxRecDepth 100000 in
theorem M_perform27_m {l : Launch} {G : ax_G} (S : x_S) (M : x_M) (tl : List va_E) (n : Nat) (u : Nat → Int) (t : Nat → Bool) (hG : gd M) (hW : WS n u t) (hM : MS M n u t) (num : Int) :
    AM l VV G M_perform_y M_perform_c 2 none 7 0 0 [.ref 153, .int 23] (x_hM S M tl) (fun v h' => v = none ∧ mp S tl M (pS 27 num n u t) h') := by
  refine AM.of (pl := pl_M) (by decide) v_good fl_M_ok kl_M_ok nofun (Nat.le_of_ble_eq_true rfl) ?_
  intro p e s m args below meth c X
  refine AW.run X M_perform_d 0 2 rfl ?_
  refine AW.icmp_ge X (M_perform_d.d 2 rfl) (fun q2 => ?_) (fun q2 => absurd q2 (by decide))
  refine AW.run X M_perform_d 7 2 rfl ?_
  refine AW.icmp_ge X (M_perform_d.d 9 rfl) (fun q9 => ?_) (fun q9 => absurd q9 (by decide))
  refine AW.run X M_perform_d 14 2 rfl ?_
  refine AW.icmp_ge X (M_perform_d.d 16 rfl) (fun q16 => ?_) (fun q16 => absurd q16 (by decide))
  refine AW.run X M_perform_d 21 2 rfl ?_
  refine AW.icmp_ge X (M_perform_d.d 23 rfl) (fun q23 => absurd q23 (by decide)) (fun q23 => ?_)
  refine AW.run X M_perform_d 24 2 rfl ?_
  refine AW.callV (As := [.int 23]) X (M_bits27_m S M tl n u t hG hW hM num) cb_M_405 rfl rfl M_bits_im M_bits_se rfl ⟨Nat.le_of_ble_eq_true rfl, Nat.le_of_ble_eq_true rfl⟩ (Nat.le_of_ble_eq_true rfl) ⟨Nat.le_of_ble_eq_true rfl, Nat.le_of_ble_eq_true rfl⟩ (M_perform_d.d 26 rfl) (fun v h' q => ?_)
  obtain ⟨rfl, q⟩ := q
  refine AW.goto X (M_perform_d.d 27 rfl) ?_
  exact AW.vret X (M_perform_d.d 31 rfl) (Nat.le_of_ble_eq_true rfl) (Nat.le_of_ble_eq_true rfl) ⟨rfl, q⟩

set_option maxHeartbeats 4000000 in
set_option maxRecDepth 100000 in
theorem M_perform28_m {l : Launch} {G : ax_G} (S : x_S) (M : x_M) (tl : List va_E) (n : Nat) (u : Nat → Int) (t : Nat → Bool) (hG : gd M) (hW : WS n u t) (hM : MS M n u t) (num : Int) :
    AM l VV G M_perform_y M_perform_c 2 none 7 0 0 [.ref 153, .int 24] (x_hM S M tl) (fun v h' => v = none ∧ mp S tl M (pS 28 num n u t) h') := by
  refine AM.of (pl := pl_M) (by decide) v_good fl_M_ok kl_M_ok nofun (Nat.le_of_ble_eq_true rfl) ?_
  intro p e s m args below meth c X
  refine AW.run X M_perform_d 0 2 rfl ?_
  refine AW.icmp_ge X (M_perform_d.d 2 rfl) (fun q2 => ?_) (fun q2 => absurd q2 (by decide))
  refine AW.run X M_perform_d 7 2 rfl ?_
  refine AW.icmp_ge X (M_perform_d.d 9 rfl) (fun q9 => ?_) (fun q9 => absurd q9 (by decide))
  refine AW.run X M_perform_d 14 2 rfl ?_
  refine AW.icmp_ge X (M_perform_d.d 16 rfl) (fun q16 => ?_) (fun q16 => absurd q16 (by decide))
  refine AW.run X M_perform_d 21 2 rfl ?_
  refine AW.icmp_ge X (M_perform_d.d 23 rfl) (fun q23 => absurd q23 (by decide)) (fun q23 => ?_)
  refine AW.run X M_perform_d 24 2 rfl ?_
  refine AW.callV (As := [.int 24]) X (M_bits28_m S M tl n u t hG hW hM num) cb_M_405 rfl rfl M_bits_im M_bits_se rfl ⟨Nat.le_of_ble_eq_true rfl, Nat.le_of_ble_eq_true rfl⟩ (Nat.le_of_ble_eq_true rfl) ⟨Nat.le_of_ble_eq_true rfl, Nat.le_of_ble_eq_true rfl⟩ (M_perform_d.d 26 rfl) (fun v h' q => ?_)
  obtain ⟨rfl, q⟩ := q
  refine AW.goto X (M_perform_d.d 27 rfl) ?_
  exact AW.vret X (M_perform_d.d 31 rfl) (Nat.le_of_ble_eq_true rfl) (Nat.le_of_ble_eq_true rfl) ⟨rfl, q⟩

set_option maxHeartbeats 4000000 in
set_option maxRecDepth 100000 in
theorem M_perform29_m {l : Launch} {G : ax_G} (S : x_S) (M : x_M) (tl : List va_E) (n : Nat) (u : Nat → Int) (t : Nat → Bool) (hG : gd M) (hW : WS n u t) (hM : MS M n u t) (num : Int) :
    AM l VV G M_perform_y M_perform_c 2 none 7 0 0 [.ref 153, .int 25] (x_hM S M tl) (fun v h' => v = none ∧ mp S tl M (pS 29 num n u t) h') := by
  refine AM.of (pl := pl_M) (by decide) v_good fl_M_ok kl_M_ok nofun (Nat.le_of_ble_eq_true rfl) ?_
  intro p e s m args below meth c X
  refine AW.run X M_perform_d 0 2 rfl ?_
  refine AW.icmp_ge X (M_perform_d.d 2 rfl) (fun q2 => ?_) (fun q2 => absurd q2 (by decide))
  refine AW.run X M_perform_d 7 2 rfl ?_
  refine AW.icmp_ge X (M_perform_d.d 9 rfl) (fun q9 => ?_) (fun q9 => absurd q9 (by decide))
  refine AW.run X M_perform_d 14 2 rfl ?_
  refine AW.icmp_ge X (M_perform_d.d 16 rfl) (fun q16 => ?_) (fun q16 => absurd q16 (by decide))
  refine AW.run X M_perform_d 21 2 rfl ?_
  refine AW.icmp_ge X (M_perform_d.d 23 rfl) (fun q23 => absurd q23 (by decide)) (fun q23 => ?_)
  refine AW.run X M_perform_d 24 2 rfl ?_
  refine AW.callV (As := [.int 25]) X (M_bits29_m S M tl n u t hG hW hM num) cb_M_405 rfl rfl M_bits_im M_bits_se rfl ⟨Nat.le_of_ble_eq_true rfl, Nat.le_of_ble_eq_true rfl⟩ (Nat.le_of_ble_eq_true rfl) ⟨Nat.le_of_ble_eq_true rfl, Nat.le_of_ble_eq_true rfl⟩ (M_perform_d.d 26 rfl) (fun v h' q => ?_)
  obtain ⟨rfl, q⟩ := q
  refine AW.goto X (M_perform_d.d 27 rfl) ?_
  exact AW.vret X (M_perform_d.d 31 rfl) (Nat.le_of_ble_eq_true rfl) (Nat.le_of_ble_eq_true rfl) ⟨rfl, q⟩

set_option maxHeartbeats 4000000 in
set_option maxRecDepth 100000 in
theorem M_perform30_m {l : Launch} {G : ax_G} (S : x_S) (M : x_M) (tl : List va_E) (n : Nat) (u : Nat → Int) (t : Nat → Bool) (hG : gd M) (hW : WS n u t) (hM : MS M n u t) (num : Int) :
    AM l VV G M_perform_y M_perform_c 2 none 7 0 0 [.ref 153, .int 26] (x_hM S M tl) (fun v h' => v = none ∧ mp S tl M (pS 30 num n u t) h') := by
  refine AM.of (pl := pl_M) (by decide) v_good fl_M_ok kl_M_ok nofun (Nat.le_of_ble_eq_true rfl) ?_
  intro p e s m args below meth c X
  refine AW.run X M_perform_d 0 2 rfl ?_
  refine AW.icmp_ge X (M_perform_d.d 2 rfl) (fun q2 => ?_) (fun q2 => absurd q2 (by decide))
  refine AW.run X M_perform_d 7 2 rfl ?_
  refine AW.icmp_ge X (M_perform_d.d 9 rfl) (fun q9 => ?_) (fun q9 => absurd q9 (by decide))
  refine AW.run X M_perform_d 14 2 rfl ?_
  refine AW.icmp_ge X (M_perform_d.d 16 rfl) (fun q16 => ?_) (fun q16 => absurd q16 (by decide))
  refine AW.run X M_perform_d 21 2 rfl ?_
  refine AW.icmp_ge X (M_perform_d.d 23 rfl) (fun q23 => absurd q23 (by decide)) (fun q23 => ?_)
  refine AW.run X M_perform_d 24 2 rfl ?_
  refine AW.callV (As := [.int 26]) X (M_bits30_m S M tl n u t hG hW hM num) cb_M_405 rfl rfl M_bits_im M_bits_se rfl ⟨Nat.le_of_ble_eq_true rfl, Nat.le_of_ble_eq_true rfl⟩ (Nat.le_of_ble_eq_true rfl) ⟨Nat.le_of_ble_eq_true rfl, Nat.le_of_ble_eq_true rfl⟩ (M_perform_d.d 26 rfl) (fun v h' q => ?_)
  obtain ⟨rfl, q⟩ := q
  refine AW.goto X (M_perform_d.d 27 rfl) ?_
  exact AW.vret X (M_perform_d.d 31 rfl) (Nat.le_of_ble_eq_true rfl) (Nat.le_of_ble_eq_true rfl) ⟨rfl, q⟩

set_option maxHeartbeats 4000000 in
set_option maxRecDepth 100000 in
theorem M_perform20_m {l : Launch} {G : ax_G} (S : x_S) (M : x_M) (tl : List va_E) (n : Nat) (u : Nat → Int) (t : Nat → Bool) (hG : gd M) (hW : WS n u t) (hM : MS M n u t) (num : Int) :
    AM l VV G M_perform_y M_perform_c 2 none 7 0 0 [.ref 153, .int 27] (x_hM S M tl) (fun v h' => v = none ∧ mp S tl M (pS 20 num n u t) h') := by
  refine AM.of (pl := pl_M) (by decide) v_good fl_M_ok kl_M_ok nofun (Nat.le_of_ble_eq_true rfl) ?_
  intro p e s m args below meth c X
  refine AW.run X M_perform_d 0 2 rfl ?_
  refine AW.icmp_ge X (M_perform_d.d 2 rfl) (fun q2 => ?_) (fun q2 => absurd q2 (by decide))
  refine AW.run X M_perform_d 7 2 rfl ?_
  refine AW.icmp_ge X (M_perform_d.d 9 rfl) (fun q9 => ?_) (fun q9 => absurd q9 (by decide))
  refine AW.run X M_perform_d 14 2 rfl ?_
  refine AW.icmp_ge X (M_perform_d.d 16 rfl) (fun q16 => ?_) (fun q16 => absurd q16 (by decide))
  refine AW.run X M_perform_d 21 2 rfl ?_
  refine AW.icmp_ge X (M_perform_d.d 23 rfl) (fun q23 => absurd q23 (by decide)) (fun q23 => ?_)
  refine AW.run X M_perform_d 24 2 rfl ?_
  refine AW.callV (As := [.int 27]) X (M_bits20_m S M tl n u t hG hW hM num) cb_M_405 rfl rfl M_bits_im M_bits_se rfl ⟨Nat.le_of_ble_eq_true rfl, Nat.le_of_ble_eq_true rfl⟩ (Nat.le_of_ble_eq_true rfl) ⟨Nat.le_of_ble_eq_true rfl, Nat.le_of_ble_eq_true rfl⟩ (M_perform_d.d 26 rfl) (fun v h' q => ?_)
  obtain ⟨rfl, q⟩ := q
  refine AW.goto X (M_perform_d.d 27 rfl) ?_
  exact AW.vret X (M_perform_d.d 31 rfl) (Nat.le_of_ble_eq_true rfl) (Nat.le_of_ble_eq_true rfl) ⟨rfl, q⟩

set_option maxHeartbeats 4000000 in
set_option maxRecDepth 100000 in
theorem M_perform31_m {l : Launch} {G : ax_G} (S : x_S) (M : x_M) (tl : List va_E) (n : Nat) (u : Nat → Int) (t : Nat → Bool) (hG : gd M) (hW : WS n u t) (hM : MS M n u t) (num : Int) :
    AM l VV G M_perform_y M_perform_c 2 none 7 0 0 [.ref 153, .int 28] (x_hM S M tl) (fun v h' => v = none ∧ mp S tl M (pS 31 num n u t) h') := by
  refine AM.of (pl := pl_M) (by decide) v_good fl_M_ok kl_M_ok nofun (Nat.le_of_ble_eq_true rfl) ?_
  intro p e s m args below meth c X
  refine AW.run X M_perform_d 0 2 rfl ?_
  refine AW.icmp_ge X (M_perform_d.d 2 rfl) (fun q2 => ?_) (fun q2 => absurd q2 (by decide))
  refine AW.run X M_perform_d 7 2 rfl ?_
  refine AW.icmp_ge X (M_perform_d.d 9 rfl) (fun q9 => ?_) (fun q9 => absurd q9 (by decide))
  refine AW.run X M_perform_d 14 2 rfl ?_
  refine AW.icmp_ge X (M_perform_d.d 16 rfl) (fun q16 => ?_) (fun q16 => absurd q16 (by decide))
  refine AW.run X M_perform_d 21 2 rfl ?_
  refine AW.icmp_ge X (M_perform_d.d 23 rfl) (fun q23 => ?_) (fun q23 => absurd q23 (by decide))
  refine AW.run X M_perform_d 28 2 rfl ?_
  refine AW.callV (As := [.int 28]) X (M_move31_m S M tl n u t hG hW hM num) cb_M_408 rfl rfl M_move_im M_move_se rfl ⟨Nat.le_of_ble_eq_true rfl, Nat.le_of_ble_eq_true rfl⟩ (Nat.le_of_ble_eq_true rfl) ⟨Nat.le_of_ble_eq_true rfl, Nat.le_of_ble_eq_true rfl⟩ (M_perform_d.d 30 rfl) (fun v h' q => ?_)
  obtain ⟨rfl, q⟩ := q
  exact AW.vret X (M_perform_d.d 31 rfl) (Nat.le_of_ble_eq_true rfl) (Nat.le_of_ble_eq_true rfl) ⟨rfl, q⟩

set_option maxHeartbeats 4000000 in
set_option maxRecDepth 100000 in
theorem M_perform32_m {l : Launch} {G : ax_G} (S : x_S) (M : x_M) (tl : List va_E) (n : Nat) (u : Nat → Int) (t : Nat → Bool) (hG : gd M) (hW : WS n u t) (hM : MS M n u t) (num : Int) :
    AM l VV G M_perform_y M_perform_c 2 none 7 0 0 [.ref 153, .int 29] (x_hM S M tl) (fun v h' => v = none ∧ mp S tl M (pS 32 num n u t) h') := by
  refine AM.of (pl := pl_M) (by decide) v_good fl_M_ok kl_M_ok nofun (Nat.le_of_ble_eq_true rfl) ?_
  intro p e s m args below meth c X
  refine AW.run X M_perform_d 0 2 rfl ?_
  refine AW.icmp_ge X (M_perform_d.d 2 rfl) (fun q2 => ?_) (fun q2 => absurd q2 (by decide))
  refine AW.run X M_perform_d 7 2 rfl ?_
  refine AW.icmp_ge X (M_perform_d.d 9 rfl) (fun q9 => ?_) (fun q9 => absurd q9 (by decide))
  refine AW.run X M_perform_d 14 2 rfl ?_
  refine AW.icmp_ge X (M_perform_d.d 16 rfl) (fun q16 => ?_) (fun q16 => absurd q16 (by decide))
  refine AW.run X M_perform_d 21 2 rfl ?_
  refine AW.icmp_ge X (M_perform_d.d 23 rfl) (fun q23 => ?_) (fun q23 => absurd q23 (by decide))
  refine AW.run X M_perform_d 28 2 rfl ?_
  refine AW.callV (As := [.int 29]) X (M_move32_m S M tl n u t hG hW hM num) cb_M_408 rfl rfl M_move_im M_move_se rfl ⟨Nat.le_of_ble_eq_true rfl, Nat.le_of_ble_eq_true rfl⟩ (Nat.le_of_ble_eq_true rfl) ⟨Nat.le_of_ble_eq_true rfl, Nat.le_of_ble_eq_true rfl⟩ (M_perform_d.d 30 rfl) (fun v h' q => ?_)
  obtain ⟨rfl, q⟩ := q
  exact AW.vret X (M_perform_d.d 31 rfl) (Nat.le_of_ble_eq_true rfl) (Nat.le_of_ble_eq_true rfl) ⟨rfl, q⟩

set_option maxHeartbeats 4000000 in
set_option maxRecDepth 100000 in
theorem M_perform33_m {l : Launch} {G : ax_G} (S : x_S) (M : x_M) (tl : List va_E) (n : Nat) (u : Nat → Int) (t : Nat → Bool) (hG : gd M) (hW : WS n u t) (hM : MS M n u t) (num : Int) :
    AM l VV G M_perform_y M_perform_c 2 none 7 0 0 [.ref 153, .int 30] (x_hM S M tl) (fun v h' => v = none ∧ mp S tl M (pS 33 num n u t) h') := by
  refine AM.of (pl := pl_M) (by decide) v_good fl_M_ok kl_M_ok nofun (Nat.le_of_ble_eq_true rfl) ?_
  intro p e s m args below meth c X
  refine AW.run X M_perform_d 0 2 rfl ?_
  refine AW.icmp_ge X (M_perform_d.d 2 rfl) (fun q2 => ?_) (fun q2 => absurd q2 (by decide))
  refine AW.run X M_perform_d 7 2 rfl ?_
  refine AW.icmp_ge X (M_perform_d.d 9 rfl) (fun q9 => ?_) (fun q9 => absurd q9 (by decide))
  refine AW.run X M_perform_d 14 2 rfl ?_
  refine AW.icmp_ge X (M_perform_d.d 16 rfl) (fun q16 => ?_) (fun q16 => absurd q16 (by decide))
  refine AW.run X M_perform_d 21 2 rfl ?_
  refine AW.icmp_ge X (M_perform_d.d 23 rfl) (fun q23 => ?_) (fun q23 => absurd q23 (by decide))
  refine AW.run X M_perform_d 28 2 rfl ?_
  refine AW.callV (As := [.int 30]) X (M_move33_m S M tl n u t hG hW hM num) cb_M_408 rfl rfl M_move_im M_move_se rfl ⟨Nat.le_of_ble_eq_true rfl, Nat.le_of_ble_eq_true rfl⟩ (Nat.le_of_ble_eq_true rfl) ⟨Nat.le_of_ble_eq_true rfl, Nat.le_of_ble_eq_true rfl⟩ (M_perform_d.d 30 rfl) (fun v h' q => ?_)
  obtain ⟨rfl, q⟩ := q
  exact AW.vret X (M_perform_d.d 31 rfl) (Nat.le_of_ble_eq_true rfl) (Nat.le_of_ble_eq_true rfl) ⟨rfl, q⟩

set_option maxHeartbeats 4000000 in
set_option maxRecDepth 100000 in
theorem M_perform34_m {l : Launch} {G : ax_G} (S : x_S) (M : x_M) (tl : List va_E) (n : Nat) (u : Nat → Int) (t : Nat → Bool) (hG : gd M) (hW : WS n u t) (hM : MS M n u t) (num : Int) :
    AM l VV G M_perform_y M_perform_c 2 none 7 0 0 [.ref 153, .int 31] (x_hM S M tl) (fun v h' => v = none ∧ mp S tl M (pS 34 num n u t) h') := by
  refine AM.of (pl := pl_M) (by decide) v_good fl_M_ok kl_M_ok nofun (Nat.le_of_ble_eq_true rfl) ?_
  intro p e s m args below meth c X
  refine AW.run X M_perform_d 0 2 rfl ?_
  refine AW.icmp_ge X (M_perform_d.d 2 rfl) (fun q2 => ?_) (fun q2 => absurd q2 (by decide))
  refine AW.run X M_perform_d 7 2 rfl ?_
  refine AW.icmp_ge X (M_perform_d.d 9 rfl) (fun q9 => ?_) (fun q9 => absurd q9 (by decide))
  refine AW.run X M_perform_d 14 2 rfl ?_
  refine AW.icmp_ge X (M_perform_d.d 16 rfl) (fun q16 => ?_) (fun q16 => absurd q16 (by decide))
  refine AW.run X M_perform_d 21 2 rfl ?_
  refine AW.icmp_ge X (M_perform_d.d 23 rfl) (fun q23 => ?_) (fun q23 => absurd q23 (by decide))
  refine AW.run X M_perform_d 28 2 rfl ?_
  refine AW.callV (As := [.int 31]) X (M_move34_m S M tl n u t hG hW hM num) cb_M_408 rfl rfl M_move_im M_move_se rfl ⟨Nat.le_of_ble_eq_true rfl, Nat.le_of_ble_eq_true rfl⟩ (Nat.le_of_ble_eq_true rfl) ⟨Nat.le_of_ble_eq_true rfl, Nat.le_of_ble_eq_true rfl⟩ (M_perform_d.d 30 rfl) (fun v h' q => ?_)
  obtain ⟨rfl, q⟩ := q
  exact AW.vret X (M_perform_d.d 31 rfl) (Nat.le_of_ble_eq_true rfl) (Nat.le_of_ble_eq_true rfl) ⟨rfl, q⟩

set_option maxHeartbeats 4000000 in
set_option maxRecDepth 100000 in
theorem M_perform35_m {l : Launch} {G : ax_G} (S : x_S) (M : x_M) (tl : List va_E) (n : Nat) (u : Nat → Int) (t : Nat → Bool) (hG : gd M) (hW : WS n u t) (hM : MS M n u t) (num : Int) :
    AM l VV G M_perform_y M_perform_c 2 none 7 0 0 [.ref 153, .int 32] (x_hM S M tl) (fun v h' => v = none ∧ mp S tl M (pS 35 num n u t) h') := by
  refine AM.of (pl := pl_M) (by decide) v_good fl_M_ok kl_M_ok nofun (Nat.le_of_ble_eq_true rfl) ?_
  intro p e s m args below meth c X
  refine AW.run X M_perform_d 0 2 rfl ?_
  refine AW.icmp_ge X (M_perform_d.d 2 rfl) (fun q2 => ?_) (fun q2 => absurd q2 (by decide))
  refine AW.run X M_perform_d 7 2 rfl ?_
  refine AW.icmp_ge X (M_perform_d.d 9 rfl) (fun q9 => ?_) (fun q9 => absurd q9 (by decide))
  refine AW.run X M_perform_d 14 2 rfl ?_
  refine AW.icmp_ge X (M_perform_d.d 16 rfl) (fun q16 => ?_) (fun q16 => absurd q16 (by decide))
  refine AW.run X M_perform_d 21 2 rfl ?_
  refine AW.icmp_ge X (M_perform_d.d 23 rfl) (fun q23 => ?_) (fun q23 => absurd q23 (by decide))
  refine AW.run X M_perform_d 28 2 rfl ?_
  refine AW.callV (As := [.int 32]) X (M_move35_m S M tl n u t hG hW hM num) cb_M_408 rfl rfl M_move_im M_move_se rfl ⟨Nat.le_of_ble_eq_true rfl, Nat.le_of_ble_eq_true rfl⟩ (Nat.le_of_ble_eq_true rfl) ⟨Nat.le_of_ble_eq_true rfl, Nat.le_of_ble_eq_true rfl⟩ (M_perform_d.d 30 rfl) (fun v h' q => ?_)
  obtain ⟨rfl, q⟩ := q
  exact AW.vret X (M_perform_d.d 31 rfl) (Nat.le_of_ble_eq_true rfl) (Nat.le_of_ble_eq_true rfl) ⟨rfl, q⟩

set_option maxHeartbeats 4000000 in
set_option maxRecDepth 100000 in
theorem M_perform36_m {l : Launch} {G : ax_G} (S : x_S) (M : x_M) (tl : List va_E) (n : Nat) (u : Nat → Int) (t : Nat → Bool) (hG : gd M) (hW : WS n u t) (hM : MS M n u t) (num : Int) :
    AM l VV G M_perform_y M_perform_c 2 none 7 0 0 [.ref 153, .int 33] (x_hM S M tl) (fun v h' => v = none ∧ mp S tl M (pS 36 num n u t) h') := by
  refine AM.of (pl := pl_M) (by decide) v_good fl_M_ok kl_M_ok nofun (Nat.le_of_ble_eq_true rfl) ?_
  intro p e s m args below meth c X
  refine AW.run X M_perform_d 0 2 rfl ?_
  refine AW.icmp_ge X (M_perform_d.d 2 rfl) (fun q2 => ?_) (fun q2 => absurd q2 (by decide))
  refine AW.run X M_perform_d 7 2 rfl ?_
  refine AW.icmp_ge X (M_perform_d.d 9 rfl) (fun q9 => ?_) (fun q9 => absurd q9 (by decide))
  refine AW.run X M_perform_d 14 2 rfl ?_
  refine AW.icmp_ge X (M_perform_d.d 16 rfl) (fun q16 => ?_) (fun q16 => absurd q16 (by decide))
  refine AW.run X M_perform_d 21 2 rfl ?_
  refine AW.icmp_ge X (M_perform_d.d 23 rfl) (fun q23 => ?_) (fun q23 => absurd q23 (by decide))
  refine AW.run X M_perform_d 28 2 rfl ?_
  refine AW.callV (As := [.int 33]) X (M_move36_m S M tl n u t hG hW hM num) cb_M_408 rfl rfl M_move_im M_move_se rfl ⟨Nat.le_of_ble_eq_true rfl, Nat.le_of_ble_eq_true rfl⟩ (Nat.le_of_ble_eq_true rfl) ⟨Nat.le_of_ble_eq_true rfl, Nat.le_of_ble_eq_true rfl⟩ (M_perform_d.d 30 rfl) (fun v h' q => ?_)
  obtain ⟨rfl, q⟩ := q
  exact AW.vret X (M_perform_d.d 31 rfl) (Nat.le_of_ble_eq_true rfl) (Nat.le_of_ble_eq_true rfl) ⟨rfl, q⟩

