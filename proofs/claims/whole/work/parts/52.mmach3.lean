theorem ms_tk2 {M : x_M} {n : Nat} {u : Nat → Int} {t : Nat → Bool} (h : MS M n u t) : MS (y_i (y_i M 9 (nI (n - 1))) 9 (nI (n - 2))) (n - 2) u t := ⟨y_ig _ _ _, fun j hj => h.2 j (by omega)⟩
theorem pa2_n {n : Nat} {u : Nat → Int} {t : Nat → Bool} (h : pa2 n u t = -1) : 2 ≤ n := by
  unfold pa2 at h
  by_cases z : n < 2
  · rw [if_pos z] at h; cases h
  · omega
theorem pa2_p {n : Nat} {u : Nat → Int} {t : Nat → Bool} (h : pa2 n u t = -1) : pwh2 n u t = -1 := by
  have := pa2_n h
  unfold pa2 at h
  rw [if_neg (by omega)] at h
  exact h
theorem pa1_n {n : Nat} {u : Nat → Int} {t : Nat → Bool} (h : pa1 n u t = -1) : 1 ≤ n := by
  unfold pa1 at h
  by_cases z : n < 1
  · rw [if_pos z] at h; cases h
  · omega
theorem pa1_p {n : Nat} {u : Nat → Int} {t : Nat → Bool} (h : pa1 n u t = -1) : pwh1 n u t = -1 := by
  have := pa1_n h
  unfold pa1 at h
  rw [if_neg (by omega)] at h
  exact h
theorem pa2_b {n : Nat} {u : Nat → Int} {t : Nat → Bool} {r : pR} (h : pa2 n u t ≠ -1) : (if n < 2 then pe n u t 9 else if pwh2 n u t ≠ -1 then pe n u t (pwh2 n u t) else r).1 = pa2 n u t := by
  unfold pa2 at h ⊢
  by_cases z : n < 2
  · rw [if_pos z, if_pos z]; rfl
  · rw [if_neg z] at h
    rw [if_neg z, if_neg z, if_pos h]; rfl
theorem pa1_b {n : Nat} {u : Nat → Int} {t : Nat → Bool} {r : pR} (h : pa1 n u t ≠ -1) : (if n < 1 then pe n u t 9 else if pwh1 n u t ≠ -1 then pe n u t (pwh1 n u t) else r).1 = pa1 n u t := by
  unfold pa1 at h ⊢
  by_cases z : n < 1
  · rw [if_pos z, if_pos z]; rfl
  · rw [if_neg z] at h
    rw [if_neg z, if_neg z, if_pos h]; rfl
theorem bad_na {M : x_M} {n : Nat} {u : Nat → Int} {t : Nat → Bool} (h : pa2 n u t ≠ -1) : (bad M (pa2 n u t)).1 3 ≠ -1 := by
  rw [bad_3]
  unfold pa2 at h ⊢
  by_cases z : n < 2
  · rw [if_pos z]; decide
  · rw [if_neg z] at h ⊢
    rcases pwh2_v n u t with w | w | w
    · rw [w]; decide
    · rw [w]; decide
    · exact absurd w h
theorem bad_na1 {M : x_M} {n : Nat} {u : Nat → Int} {t : Nat → Bool} (h : pa1 n u t ≠ -1) : (bad M (pa1 n u t)).1 3 ≠ -1 := by
  rw [bad_3]
  unfold pa1 at h ⊢
  by_cases z : n < 1
  · rw [if_pos z]; decide
  · rw [if_neg z] at h ⊢
    rcases pwh1_v n u t with w | w | w
    · rw [w]; decide
    · rw [w]; decide
    · exact absurd w h
theorem bad_nn {M : x_M} {n : Nat} {t : Nat → Bool} (h : pn2 n t ≠ -1) : (bad M (pn2 n t)).1 3 ≠ -1 := bad_ne (pn2_pa (u := fun _ => 0) h).2
theorem tq_w {a b : Int} (ha : a % 65536 = 0) (hb : b % 65536 = 0) : (a / 65536).tdiv (b / 65536) * 65536 = a.tdiv b * 65536 ∧ (a / 65536).tmod (b / 65536) * 65536 = a.tmod b := by
  have e1 : a = a / 65536 * 65536 := by omega
  have e2 : b = b / 65536 * 65536 := by omega
  generalize a / 65536 = x at *
  generalize b / 65536 = y at *
  subst e1 e2
  constructor
  · rw [Int.mul_tdiv_mul_of_pos_left _ _ (by decide)]
  · have h1 := Int.mul_tdiv_add_tmod (x * 65536) (y * 65536)
    rw [Int.mul_tdiv_mul_of_pos_left _ _ (by decide)] at h1
    have h2 := Int.mul_tdiv_add_tmod x y
    have h3 : y * 65536 * (x.tdiv y) = y * x.tdiv y * 65536 := by rw [Int.mul_assoc, Int.mul_comm 65536, ← Int.mul_assoc]
    generalize y * x.tdiv y = q at *
    omega
theorem zL_tq {a b : Int} (ha : zN a) (hb : zN b) : zL (a.tdiv b * 65536) := by
  have h := Int.natAbs_tdiv_le_natAbs a b
  have h1 := ha.1
  have h2 := ha.2
  exact ⟨by omega, by omega⟩
theorem zL_tm {a b : Int} (ha : zN a) (hb : zN b) : zL (a.tmod b) := by
  have h := Int.natAbs_tmod a b
  have h3 := Nat.mod_le a.natAbs b.natAbs
  have h1 := ha.1
  have h2 := ha.2
  exact ⟨by omega, by omega⟩
theorem lZ_rem {a b : Int} (ha : zN a) (hb : zN b) : lZ a - lZ a / lZ b * lZ b = lZ (a.tmod b) := by
  rw [lZ_div (zN_L ha) (zN_L hb) (Or.inl (by have := ha.1; omega)), lZ_mul, lZ_sub]
  congr 1
  have := Int.mul_tdiv_add_tmod a b
  rw [Int.mul_comm] at this
  omega
set_option maxHeartbeats 4000000 in
set_option maxRecDepth 100000 in
theorem M_two14_m {l : Launch} {G : ax_G} (S : x_S) (M : x_M) (tl : List va_E) (n : Nat) (u : Nat → Int) (t : Nat → Bool) (hG : gd M) (hW : WS n u t) (hM : MS M n u t) (num : Int) :
    AM l VV G M_two_y M_two_c 7 none 5 0 0 [.ref 153, .int 9] (x_hM S M tl) (fun v h' => v = none ∧ mp S tl M (pS 14 num n u t) h') := by
  refine AM.of (pl := pl_M) (by decide) v_good fl_M_ok kl_M_ok nofun (Nat.le_of_ble_eq_true rfl) ?_
  intro p e s m args below meth c X
  refine AW.run X M_two_d 0 2 rfl ?_
  refine AW.icmp_le X (M_two_d.d 2 rfl) (fun q2 => ?_) (fun q2 => absurd q2 (by decide))
  refine AW.run X M_two_d 7 2 rfl ?_
  refine AW.callV (As := [.int (nI 2)]) X (M_areNumbers2_m S M tl n u t hG hW hM) cb_M_366 rfl rfl M_areNumbers_im M_areNumbers_se rfl ⟨Nat.le_of_ble_eq_true rfl, Nat.le_of_ble_eq_true rfl⟩ (Nat.le_of_ble_eq_true rfl) ⟨Nat.le_of_ble_eq_true rfl, Nat.le_of_ble_eq_true rfl⟩ (M_two_d.d 9 rfl) (fun v h' q => ?_)
  rcases q with ⟨hc, rfl, rfl⟩ | ⟨hc, rfl, rfl⟩
  · obtain ⟨hn, ht2, ht1⟩ := pn2_o hc
    refine AW.run X M_two_d 10 2 rfl ?_
    refine AW.if_eq X (M_two_d.d 12 rfl) (fun q12 => absurd q12 (by decide)) (fun q12 => ?_)
    refine AW.run X M_two_d 13 2 rfl ?_
    refine AW.icmp_le X (M_two_d.d 15 rfl) (fun q15 => ?_) (fun q15 => absurd q15 (by decide))
    refine AW.run X M_two_d 29 1 rfl ?_
    refine AW.callV (As := []) X (M_isGoodG_m S M tl hG) cb_M_349 rfl rfl M_isGood_im M_isGood_se rfl ⟨Nat.le_of_ble_eq_true rfl, Nat.le_of_ble_eq_true rfl⟩ (Nat.le_of_ble_eq_true rfl) ⟨Nat.le_of_ble_eq_true rfl, Nat.le_of_ble_eq_true rfl⟩ (M_two_d.d 30 rfl) (fun v h' q => ?_)
    obtain ⟨rfl, rfl⟩ := q
    refine AW.if_ne X (M_two_d.d 31 rfl) (fun q31 => ?_) (fun q31 => absurd q31 (by decide))
    refine AW.run X M_two_d 33 1 rfl ?_
    refine AW.callV (As := []) X (M_take_m S M tl n u t hW.1 hM (by omega)) cb_M_392 rfl rfl M_take_im M_take_se rfl ⟨Nat.le_of_ble_eq_true rfl, Nat.le_of_ble_eq_true rfl⟩ (Nat.le_of_ble_eq_true rfl) ⟨Nat.le_of_ble_eq_true rfl, Nat.le_of_ble_eq_true rfl⟩ (M_two_d.d 34 rfl) (fun v h' q => ?_)
    obtain ⟨rfl, rfl⟩ := q
    refine AW.run X M_two_d 35 2 rfl ?_
    refine AW.callV (As := []) X (M_take_m S (y_i M 9 (nI (n - 1))) tl (n - 1) u t (by have := hW.1; omega) hM.tk (by omega)) cb_M_392 rfl rfl M_take_im M_take_se rfl ⟨Nat.le_of_ble_eq_true rfl, Nat.le_of_ble_eq_true rfl⟩ (Nat.le_of_ble_eq_true rfl) ⟨Nat.le_of_ble_eq_true rfl, Nat.le_of_ble_eq_true rfl⟩ (M_two_d.d 37 rfl) (fun v h' q => ?_)
    obtain ⟨rfl, rfl⟩ := q
    rw [show n - 1 - 1 = n - 2 by omega]
    refine AW.run X M_two_d 38 2 rfl ?_
    refine AW.tableIn X (M_two_d.d 40 rfl) (by decide) (by decide) (off := 36) (by decide) ?_
    refine AW.run X M_two_d 41 4 rfl ?_
    rw [lZ_add]
    refine AW.callV (As := [.long (lZ (u (n - 2) + u (n - 1)))]) X (M_putNumber_m S (y_i (y_i M 9 (nI (n - 1))) 9 (nI (n - 2))) tl (n - 2) u t (u (n - 2) + u (n - 1)) (gd_i (by decide) (gd_i (by decide) hG)) (by have := hW.1; omega) (ms_tk2 hM) (zL_add (hW.2 (n - 2) (by omega)).1 (hW.2 (n - 1) (by omega)).1)) cb_M_382 rfl rfl M_putNumber_im M_putNumber_se rfl ⟨Nat.le_of_ble_eq_true rfl, Nat.le_of_ble_eq_true rfl⟩ (Nat.le_of_ble_eq_true rfl) ⟨Nat.le_of_ble_eq_true rfl, Nat.le_of_ble_eq_true rfl⟩ (M_two_d.d 45 rfl) (fun v h' q => ?_)
    obtain ⟨rfl, q⟩ := q
    refine AW.goto X (M_two_d.d 46 rfl) ?_
    exact AW.vret X (M_two_d.d 80 rfl) (Nat.le_of_ble_eq_true rfl) (Nat.le_of_ble_eq_true rfl) ⟨rfl, mp_tr ((MFr.d _ _).trans (MFr.d _ _)) (by rw [pS_14]; unfold p2; rw [if_neg (by omega), if_neg (fun z => z.elim (fun z => by rw [ht2] at z; cases z) (fun z => by rw [ht1] at z; cases z)), if_neg Bool.false_ne_true]; exact pg_sh (by omega) hn hW.1) q⟩
  · refine AW.run X M_two_d 10 2 rfl ?_
    refine AW.if_eq X (M_two_d.d 12 rfl) (fun q12 => ?_) (fun q12 => absurd q12 (by decide))
    refine AW.run X M_two_d 29 1 rfl ?_
    refine AW.callV (As := []) X (M_isGoodB_m S (bad M (pn2 n t)) tl (bad_nn hc)) cb_M_349 rfl rfl M_isGood_im M_isGood_se rfl ⟨Nat.le_of_ble_eq_true rfl, Nat.le_of_ble_eq_true rfl⟩ (Nat.le_of_ble_eq_true rfl) ⟨Nat.le_of_ble_eq_true rfl, Nat.le_of_ble_eq_true rfl⟩ (M_two_d.d 30 rfl) (fun v h' q => ?_)
    obtain ⟨rfl, rfl⟩ := q
    refine AW.if_ne X (M_two_d.d 31 rfl) (fun q31 => absurd q31 (by decide)) (fun q31 => ?_)
    exact AW.vret X (M_two_d.d 32 rfl) (Nat.le_of_ble_eq_true rfl) (Nat.le_of_ble_eq_true rfl) ⟨rfl, mp_bad (by rw [pS_14]; unfold p2; exact pn2_p hc) hc⟩

set_option maxHeartbeats 4000000 in
set_option maxRecDepth 100000 in
theorem M_two15_m {l : Launch} {G : ax_G} (S : x_S) (M : x_M) (tl : List va_E) (n : Nat) (u : Nat → Int) (t : Nat → Bool) (hG : gd M) (hW : WS n u t) (hM : MS M n u t) (num : Int) :
    AM l VV G M_two_y M_two_c 7 none 5 0 0 [.ref 153, .int 10] (x_hM S M tl) (fun v h' => v = none ∧ mp S tl M (pS 15 num n u t) h') := by
  refine AM.of (pl := pl_M) (by decide) v_good fl_M_ok kl_M_ok nofun (Nat.le_of_ble_eq_true rfl) ?_
  intro p e s m args below meth c X
  refine AW.run X M_two_d 0 2 rfl ?_
  refine AW.icmp_le X (M_two_d.d 2 rfl) (fun q2 => ?_) (fun q2 => absurd q2 (by decide))
  refine AW.run X M_two_d 7 2 rfl ?_
  refine AW.callV (As := [.int (nI 2)]) X (M_areNumbers2_m S M tl n u t hG hW hM) cb_M_366 rfl rfl M_areNumbers_im M_areNumbers_se rfl ⟨Nat.le_of_ble_eq_true rfl, Nat.le_of_ble_eq_true rfl⟩ (Nat.le_of_ble_eq_true rfl) ⟨Nat.le_of_ble_eq_true rfl, Nat.le_of_ble_eq_true rfl⟩ (M_two_d.d 9 rfl) (fun v h' q => ?_)
  rcases q with ⟨hc, rfl, rfl⟩ | ⟨hc, rfl, rfl⟩
  · obtain ⟨hn, ht2, ht1⟩ := pn2_o hc
    refine AW.run X M_two_d 10 2 rfl ?_
    refine AW.if_eq X (M_two_d.d 12 rfl) (fun q12 => absurd q12 (by decide)) (fun q12 => ?_)
    refine AW.run X M_two_d 13 2 rfl ?_
    refine AW.icmp_le X (M_two_d.d 15 rfl) (fun q15 => ?_) (fun q15 => absurd q15 (by decide))
    refine AW.run X M_two_d 29 1 rfl ?_
    refine AW.callV (As := []) X (M_isGoodG_m S M tl hG) cb_M_349 rfl rfl M_isGood_im M_isGood_se rfl ⟨Nat.le_of_ble_eq_true rfl, Nat.le_of_ble_eq_true rfl⟩ (Nat.le_of_ble_eq_true rfl) ⟨Nat.le_of_ble_eq_true rfl, Nat.le_of_ble_eq_true rfl⟩ (M_two_d.d 30 rfl) (fun v h' q => ?_)
    obtain ⟨rfl, rfl⟩ := q
    refine AW.if_ne X (M_two_d.d 31 rfl) (fun q31 => ?_) (fun q31 => absurd q31 (by decide))
    refine AW.run X M_two_d 33 1 rfl ?_
    refine AW.callV (As := []) X (M_take_m S M tl n u t hW.1 hM (by omega)) cb_M_392 rfl rfl M_take_im M_take_se rfl ⟨Nat.le_of_ble_eq_true rfl, Nat.le_of_ble_eq_true rfl⟩ (Nat.le_of_ble_eq_true rfl) ⟨Nat.le_of_ble_eq_true rfl, Nat.le_of_ble_eq_true rfl⟩ (M_two_d.d 34 rfl) (fun v h' q => ?_)
    obtain ⟨rfl, rfl⟩ := q
    refine AW.run X M_two_d 35 2 rfl ?_
    refine AW.callV (As := []) X (M_take_m S (y_i M 9 (nI (n - 1))) tl (n - 1) u t (by have := hW.1; omega) hM.tk (by omega)) cb_M_392 rfl rfl M_take_im M_take_se rfl ⟨Nat.le_of_ble_eq_true rfl, Nat.le_of_ble_eq_true rfl⟩ (Nat.le_of_ble_eq_true rfl) ⟨Nat.le_of_ble_eq_true rfl, Nat.le_of_ble_eq_true rfl⟩ (M_two_d.d 37 rfl) (fun v h' q => ?_)
    obtain ⟨rfl, rfl⟩ := q
    rw [show n - 1 - 1 = n - 2 by omega]
    refine AW.run X M_two_d 38 2 rfl ?_
    refine AW.tableIn X (M_two_d.d 40 rfl) (by decide) (by decide) (off := 47) (by decide) ?_
    refine AW.run X M_two_d 47 4 rfl ?_
    rw [lZ_sub]
    refine AW.callV (As := [.long (lZ (u (n - 2) - u (n - 1)))]) X (M_putNumber_m S (y_i (y_i M 9 (nI (n - 1))) 9 (nI (n - 2))) tl (n - 2) u t (u (n - 2) - u (n - 1)) (gd_i (by decide) (gd_i (by decide) hG)) (by have := hW.1; omega) (ms_tk2 hM) (zL_sub (hW.2 (n - 2) (by omega)).1 (hW.2 (n - 1) (by omega)).1)) cb_M_382 rfl rfl M_putNumber_im M_putNumber_se rfl ⟨Nat.le_of_ble_eq_true rfl, Nat.le_of_ble_eq_true rfl⟩ (Nat.le_of_ble_eq_true rfl) ⟨Nat.le_of_ble_eq_true rfl, Nat.le_of_ble_eq_true rfl⟩ (M_two_d.d 51 rfl) (fun v h' q => ?_)
    obtain ⟨rfl, q⟩ := q
    refine AW.goto X (M_two_d.d 52 rfl) ?_
    exact AW.vret X (M_two_d.d 80 rfl) (Nat.le_of_ble_eq_true rfl) (Nat.le_of_ble_eq_true rfl) ⟨rfl, mp_tr ((MFr.d _ _).trans (MFr.d _ _)) (by rw [pS_15]; unfold p2; rw [if_neg (by omega), if_neg (fun z => z.elim (fun z => by rw [ht2] at z; cases z) (fun z => by rw [ht1] at z; cases z)), if_neg Bool.false_ne_true]; exact pg_sh (by omega) hn hW.1) q⟩
  · refine AW.run X M_two_d 10 2 rfl ?_
    refine AW.if_eq X (M_two_d.d 12 rfl) (fun q12 => ?_) (fun q12 => absurd q12 (by decide))
    refine AW.run X M_two_d 29 1 rfl ?_
    refine AW.callV (As := []) X (M_isGoodB_m S (bad M (pn2 n t)) tl (bad_nn hc)) cb_M_349 rfl rfl M_isGood_im M_isGood_se rfl ⟨Nat.le_of_ble_eq_true rfl, Nat.le_of_ble_eq_true rfl⟩ (Nat.le_of_ble_eq_true rfl) ⟨Nat.le_of_ble_eq_true rfl, Nat.le_of_ble_eq_true rfl⟩ (M_two_d.d 30 rfl) (fun v h' q => ?_)
    obtain ⟨rfl, rfl⟩ := q
    refine AW.if_ne X (M_two_d.d 31 rfl) (fun q31 => absurd q31 (by decide)) (fun q31 => ?_)
    exact AW.vret X (M_two_d.d 32 rfl) (Nat.le_of_ble_eq_true rfl) (Nat.le_of_ble_eq_true rfl) ⟨rfl, mp_bad (by rw [pS_15]; unfold p2; exact pn2_p hc) hc⟩

set_option maxHeartbeats 4000000 in
set_option maxRecDepth 100000 in
theorem M_two16_m {l : Launch} {G : ax_G} (S : x_S) (M : x_M) (tl : List va_E) (n : Nat) (u : Nat → Int) (t : Nat → Bool) (hG : gd M) (hW : WS n u t) (hM : MS M n u t) (num : Int) :
    AM l VV G M_two_y M_two_c 7 none 5 0 0 [.ref 153, .int 11] (x_hM S M tl) (fun v h' => v = none ∧ mp S tl M (pS 16 num n u t) h') := by
  refine AM.of (pl := pl_M) (by decide) v_good fl_M_ok kl_M_ok nofun (Nat.le_of_ble_eq_true rfl) ?_
  intro p e s m args below meth c X
  refine AW.run X M_two_d 0 2 rfl ?_
  refine AW.icmp_le X (M_two_d.d 2 rfl) (fun q2 => ?_) (fun q2 => absurd q2 (by decide))
  refine AW.run X M_two_d 7 2 rfl ?_
  refine AW.callV (As := [.int (nI 2)]) X (M_areNumbers2_m S M tl n u t hG hW hM) cb_M_366 rfl rfl M_areNumbers_im M_areNumbers_se rfl ⟨Nat.le_of_ble_eq_true rfl, Nat.le_of_ble_eq_true rfl⟩ (Nat.le_of_ble_eq_true rfl) ⟨Nat.le_of_ble_eq_true rfl, Nat.le_of_ble_eq_true rfl⟩ (M_two_d.d 9 rfl) (fun v h' q => ?_)
  rcases q with ⟨hc, rfl, rfl⟩ | ⟨hc, rfl, rfl⟩
  · obtain ⟨hn, ht2, ht1⟩ := pn2_o hc
    refine AW.run X M_two_d 10 2 rfl ?_
    refine AW.if_eq X (M_two_d.d 12 rfl) (fun q12 => absurd q12 (by decide)) (fun q12 => ?_)
    refine AW.run X M_two_d 13 2 rfl ?_
    refine AW.icmp_le X (M_two_d.d 15 rfl) (fun q15 => ?_) (fun q15 => absurd q15 (by decide))
    refine AW.run X M_two_d 29 1 rfl ?_
    refine AW.callV (As := []) X (M_isGoodG_m S M tl hG) cb_M_349 rfl rfl M_isGood_im M_isGood_se rfl ⟨Nat.le_of_ble_eq_true rfl, Nat.le_of_ble_eq_true rfl⟩ (Nat.le_of_ble_eq_true rfl) ⟨Nat.le_of_ble_eq_true rfl, Nat.le_of_ble_eq_true rfl⟩ (M_two_d.d 30 rfl) (fun v h' q => ?_)
    obtain ⟨rfl, rfl⟩ := q
    refine AW.if_ne X (M_two_d.d 31 rfl) (fun q31 => ?_) (fun q31 => absurd q31 (by decide))
    refine AW.run X M_two_d 33 1 rfl ?_
    refine AW.callV (As := []) X (M_take_m S M tl n u t hW.1 hM (by omega)) cb_M_392 rfl rfl M_take_im M_take_se rfl ⟨Nat.le_of_ble_eq_true rfl, Nat.le_of_ble_eq_true rfl⟩ (Nat.le_of_ble_eq_true rfl) ⟨Nat.le_of_ble_eq_true rfl, Nat.le_of_ble_eq_true rfl⟩ (M_two_d.d 34 rfl) (fun v h' q => ?_)
    obtain ⟨rfl, rfl⟩ := q
    refine AW.run X M_two_d 35 2 rfl ?_
    refine AW.callV (As := []) X (M_take_m S (y_i M 9 (nI (n - 1))) tl (n - 1) u t (by have := hW.1; omega) hM.tk (by omega)) cb_M_392 rfl rfl M_take_im M_take_se rfl ⟨Nat.le_of_ble_eq_true rfl, Nat.le_of_ble_eq_true rfl⟩ (Nat.le_of_ble_eq_true rfl) ⟨Nat.le_of_ble_eq_true rfl, Nat.le_of_ble_eq_true rfl⟩ (M_two_d.d 37 rfl) (fun v h' q => ?_)
    obtain ⟨rfl, rfl⟩ := q
    rw [show n - 1 - 1 = n - 2 by omega]
    refine AW.run X M_two_d 38 2 rfl ?_
    refine AW.tableIn X (M_two_d.d 40 rfl) (by decide) (by decide) (off := 58) (by decide) ?_
    refine AW.run X M_two_d 53 3 rfl ?_
    refine AW.callS (As := [.long (lZ (u (n - 2))), .long (lZ (u (n - 1)))]) X (M_times_m (u (n - 2)) (u (n - 1)) (hW.2 (n - 2) (by omega)).1 (hW.2 (n - 1) (by omega)).1) cb_M_328 M_times_st rfl ⟨Nat.le_of_ble_eq_true rfl, Nat.le_of_ble_eq_true rfl⟩ (Nat.le_of_ble_eq_true rfl) ⟨Nat.le_of_ble_eq_true rfl, Nat.le_of_ble_eq_true rfl⟩ (M_two_d.d 56 rfl) (fun v h' q => ?_)
    obtain ⟨rfl, rfl⟩ := q
    refine AW.callV (As := [.long (lZ (ztimes (u (n - 2)) (u (n - 1))))]) X (M_putNumber_m S (y_i (y_i M 9 (nI (n - 1))) 9 (nI (n - 2))) tl (n - 2) u t (ztimes (u (n - 2)) (u (n - 1))) (gd_i (by decide) (gd_i (by decide) hG)) (by have := hW.1; omega) (ms_tk2 hM) (zN_L (zk_N _))) cb_M_382 rfl rfl M_putNumber_im M_putNumber_se rfl ⟨Nat.le_of_ble_eq_true rfl, Nat.le_of_ble_eq_true rfl⟩ (Nat.le_of_ble_eq_true rfl) ⟨Nat.le_of_ble_eq_true rfl, Nat.le_of_ble_eq_true rfl⟩ (M_two_d.d 57 rfl) (fun v h' q => ?_)
    obtain ⟨rfl, q⟩ := q
    refine AW.goto X (M_two_d.d 58 rfl) ?_
    exact AW.vret X (M_two_d.d 80 rfl) (Nat.le_of_ble_eq_true rfl) (Nat.le_of_ble_eq_true rfl) ⟨rfl, mp_tr ((MFr.d _ _).trans (MFr.d _ _)) (by rw [pS_16]; unfold p2; rw [if_neg (by omega), if_neg (fun z => z.elim (fun z => by rw [ht2] at z; cases z) (fun z => by rw [ht1] at z; cases z)), if_neg Bool.false_ne_true]; exact pg_sh (by omega) hn hW.1) q⟩
  · refine AW.run X M_two_d 10 2 rfl ?_
    refine AW.if_eq X (M_two_d.d 12 rfl) (fun q12 => ?_) (fun q12 => absurd q12 (by decide))
    refine AW.run X M_two_d 29 1 rfl ?_
    refine AW.callV (As := []) X (M_isGoodB_m S (bad M (pn2 n t)) tl (bad_nn hc)) cb_M_349 rfl rfl M_isGood_im M_isGood_se rfl ⟨Nat.le_of_ble_eq_true rfl, Nat.le_of_ble_eq_true rfl⟩ (Nat.le_of_ble_eq_true rfl) ⟨Nat.le_of_ble_eq_true rfl, Nat.le_of_ble_eq_true rfl⟩ (M_two_d.d 30 rfl) (fun v h' q => ?_)
    obtain ⟨rfl, rfl⟩ := q
    refine AW.if_ne X (M_two_d.d 31 rfl) (fun q31 => absurd q31 (by decide)) (fun q31 => ?_)
    exact AW.vret X (M_two_d.d 32 rfl) (Nat.le_of_ble_eq_true rfl) (Nat.le_of_ble_eq_true rfl) ⟨rfl, mp_bad (by rw [pS_16]; unfold p2; exact pn2_p hc) hc⟩

set_option maxHeartbeats 4000000 in
set_option maxRecDepth 100000 in
theorem M_two17_m {l : Launch} {G : ax_G} (S : x_S) (M : x_M) (tl : List va_E) (n : Nat) (u : Nat → Int) (t : Nat → Bool) (hG : gd M) (hW : WS n u t) (hM : MS M n u t) (num : Int) :
    AM l VV G M_two_y M_two_c 7 none 5 0 0 [.ref 153, .int 12] (x_hM S M tl) (fun v h' => v = none ∧ mp S tl M (pS 17 num n u t) h') := by
  refine AM.of (pl := pl_M) (by decide) v_good fl_M_ok kl_M_ok nofun (Nat.le_of_ble_eq_true rfl) ?_
  intro p e s m args below meth c X
  refine AW.run X M_two_d 0 2 rfl ?_
  refine AW.icmp_le X (M_two_d.d 2 rfl) (fun q2 => ?_) (fun q2 => absurd q2 (by decide))
  refine AW.run X M_two_d 7 2 rfl ?_
  refine AW.callV (As := [.int (nI 2)]) X (M_areNumbers2_m S M tl n u t hG hW hM) cb_M_366 rfl rfl M_areNumbers_im M_areNumbers_se rfl ⟨Nat.le_of_ble_eq_true rfl, Nat.le_of_ble_eq_true rfl⟩ (Nat.le_of_ble_eq_true rfl) ⟨Nat.le_of_ble_eq_true rfl, Nat.le_of_ble_eq_true rfl⟩ (M_two_d.d 9 rfl) (fun v h' q => ?_)
  rcases q with ⟨hc, rfl, rfl⟩ | ⟨hc, rfl, rfl⟩
  · obtain ⟨hn, ht2, ht1⟩ := pn2_o hc
    refine AW.run X M_two_d 10 2 rfl ?_
    refine AW.if_eq X (M_two_d.d 12 rfl) (fun q12 => absurd q12 (by decide)) (fun q12 => ?_)
    refine AW.run X M_two_d 13 2 rfl ?_
    refine AW.icmp_le X (M_two_d.d 15 rfl) (fun q15 => absurd q15 (by decide)) (fun q15 => ?_)
    refine AW.run X M_two_d 16 6 rfl ?_
    refine AW.mll3 (j := n - 1) X (hM.i (k := 1) (by omega)) (by have := hW.1; omega) (M_two_d.d 22 rfl) ?_
    rw [(hM.2 (n - 1) (by omega)).1]
    refine AW.run X M_two_d 23 2 rfl ?_
    refine AW.if_ne X (M_two_d.d 25 rfl) (fun q25 => ?_) (fun q25 => ?_)
    · have h0 : u (n - 1) ≠ 0 := mt (lc_eq (a := u (n - 1)) (b := 0) (zN_L (hW.2 (n - 1) (by omega)).1) ⟨by decide, by decide⟩).mpr q25
      refine AW.run X M_two_d 29 1 rfl ?_
      refine AW.callV (As := []) X (M_isGoodG_m S M tl hG) cb_M_349 rfl rfl M_isGood_im M_isGood_se rfl ⟨Nat.le_of_ble_eq_true rfl, Nat.le_of_ble_eq_true rfl⟩ (Nat.le_of_ble_eq_true rfl) ⟨Nat.le_of_ble_eq_true rfl, Nat.le_of_ble_eq_true rfl⟩ (M_two_d.d 30 rfl) (fun v h' q => ?_)
      obtain ⟨rfl, rfl⟩ := q
      refine AW.if_ne X (M_two_d.d 31 rfl) (fun q31 => ?_) (fun q31 => absurd q31 (by decide))
      refine AW.run X M_two_d 33 1 rfl ?_
      refine AW.callV (As := []) X (M_take_m S M tl n u t hW.1 hM (by omega)) cb_M_392 rfl rfl M_take_im M_take_se rfl ⟨Nat.le_of_ble_eq_true rfl, Nat.le_of_ble_eq_true rfl⟩ (Nat.le_of_ble_eq_true rfl) ⟨Nat.le_of_ble_eq_true rfl, Nat.le_of_ble_eq_true rfl⟩ (M_two_d.d 34 rfl) (fun v h' q => ?_)
      obtain ⟨rfl, rfl⟩ := q
      refine AW.run X M_two_d 35 2 rfl ?_
      refine AW.callV (As := []) X (M_take_m S (y_i M 9 (nI (n - 1))) tl (n - 1) u t (by have := hW.1; omega) hM.tk (by omega)) cb_M_392 rfl rfl M_take_im M_take_se rfl ⟨Nat.le_of_ble_eq_true rfl, Nat.le_of_ble_eq_true rfl⟩ (Nat.le_of_ble_eq_true rfl) ⟨Nat.le_of_ble_eq_true rfl, Nat.le_of_ble_eq_true rfl⟩ (M_two_d.d 37 rfl) (fun v h' q => ?_)
      obtain ⟨rfl, rfl⟩ := q
      rw [show n - 1 - 1 = n - 2 by omega]
      refine AW.run X M_two_d 38 2 rfl ?_
      refine AW.tableIn X (M_two_d.d 40 rfl) (by decide) (by decide) (off := 71) (by decide) ?_
      refine AW.run X M_two_d 59 5 rfl ?_
      rw [show (65536 : Int64) = lZ 65536 from rfl, lZ_mul]
      refine AW.callS (As := [.long (lZ (u (n - 2) * 65536)), .long (lZ (u (n - 1)))]) X (M_down_m (u (n - 2) * 65536) (u (n - 1)) (zover_ok (hW.2 (n - 2) (by omega)).1 h0).1 (zN_L (hW.2 (n - 1) (by omega)).1) h0 (Or.inl (zover_ok (hW.2 (n - 2) (by omega)).1 h0).2.1)) cb_M_116 M_down_st rfl ⟨Nat.le_of_ble_eq_true rfl, Nat.le_of_ble_eq_true rfl⟩ (Nat.le_of_ble_eq_true rfl) ⟨Nat.le_of_ble_eq_true rfl, Nat.le_of_ble_eq_true rfl⟩ (M_two_d.d 64 rfl) (fun v h' q => ?_)
      obtain ⟨rfl, rfl⟩ := q
      refine AW.callV (As := [.long (lZ ((u (n - 2) * 65536).fdiv (u (n - 1))))]) X (M_putNumber_m S (y_i (y_i M 9 (nI (n - 1))) 9 (nI (n - 2))) tl (n - 2) u t ((u (n - 2) * 65536).fdiv (u (n - 1))) (gd_i (by decide) (gd_i (by decide) hG)) (by have := hW.1; omega) (ms_tk2 hM) (zover_ok (hW.2 (n - 2) (by omega)).1 h0).2.2) cb_M_382 rfl rfl M_putNumber_im M_putNumber_se rfl ⟨Nat.le_of_ble_eq_true rfl, Nat.le_of_ble_eq_true rfl⟩ (Nat.le_of_ble_eq_true rfl) ⟨Nat.le_of_ble_eq_true rfl, Nat.le_of_ble_eq_true rfl⟩ (M_two_d.d 65 rfl) (fun v h' q => ?_)
      obtain ⟨rfl, q⟩ := q
      refine AW.goto X (M_two_d.d 66 rfl) ?_
      exact AW.vret X (M_two_d.d 80 rfl) (Nat.le_of_ble_eq_true rfl) (Nat.le_of_ble_eq_true rfl) ⟨rfl, mp_tr ((MFr.d _ _).trans (MFr.d _ _)) (by rw [pS_17]; unfold p2; rw [if_neg (by omega), if_neg (fun z => z.elim (fun z => by rw [ht2] at z; cases z) (fun z => by rw [ht1] at z; cases z)), if_neg (by rw [decide_eq_true_eq]; exact h0)]; unfold zover; rw [pg_zk]; exact pg_sh (by omega) hn hW.1) q⟩
    · refine AW.run X M_two_d 26 2 rfl ?_
      refine AW.callV (As := [.int (iZ 13)]) X (M_failG_m S M tl 13 hG) cb_M_356 rfl rfl M_fail_im M_fail_se rfl ⟨Nat.le_of_ble_eq_true rfl, Nat.le_of_ble_eq_true rfl⟩ (Nat.le_of_ble_eq_true rfl) ⟨Nat.le_of_ble_eq_true rfl, Nat.le_of_ble_eq_true rfl⟩ (M_two_d.d 28 rfl) (fun v h' q => ?_)
      obtain ⟨rfl, rfl⟩ := q
      refine AW.run X M_two_d 29 1 rfl ?_
      refine AW.callV (As := []) X (M_isGoodB_m S (bad M 13) tl (by rw [bad_3]; decide)) cb_M_349 rfl rfl M_isGood_im M_isGood_se rfl ⟨Nat.le_of_ble_eq_true rfl, Nat.le_of_ble_eq_true rfl⟩ (Nat.le_of_ble_eq_true rfl) ⟨Nat.le_of_ble_eq_true rfl, Nat.le_of_ble_eq_true rfl⟩ (M_two_d.d 30 rfl) (fun v h' q => ?_)
      obtain ⟨rfl, rfl⟩ := q
      refine AW.if_ne X (M_two_d.d 31 rfl) (fun q31 => absurd q31 (by decide)) (fun q31 => ?_)
      exact AW.vret X (M_two_d.d 32 rfl) (Nat.le_of_ble_eq_true rfl) (Nat.le_of_ble_eq_true rfl) ⟨rfl, mp_bad (by rw [pS_17]; unfold p2; rw [if_neg (by omega), if_neg (fun z => z.elim (fun z => by rw [ht2] at z; cases z) (fun z => by rw [ht1] at z; cases z)), if_pos (by rw [decide_eq_true_eq]; exact (lc_eq (a := u (n - 1)) (b := 0) (zN_L (hW.2 (n - 1) (by omega)).1) ⟨by decide, by decide⟩).mp q25)]; rfl) (by decide)⟩
  · refine AW.run X M_two_d 10 2 rfl ?_
    refine AW.if_eq X (M_two_d.d 12 rfl) (fun q12 => ?_) (fun q12 => absurd q12 (by decide))
    refine AW.run X M_two_d 29 1 rfl ?_
    refine AW.callV (As := []) X (M_isGoodB_m S (bad M (pn2 n t)) tl (bad_nn hc)) cb_M_349 rfl rfl M_isGood_im M_isGood_se rfl ⟨Nat.le_of_ble_eq_true rfl, Nat.le_of_ble_eq_true rfl⟩ (Nat.le_of_ble_eq_true rfl) ⟨Nat.le_of_ble_eq_true rfl, Nat.le_of_ble_eq_true rfl⟩ (M_two_d.d 30 rfl) (fun v h' q => ?_)
    obtain ⟨rfl, rfl⟩ := q
    refine AW.if_ne X (M_two_d.d 31 rfl) (fun q31 => absurd q31 (by decide)) (fun q31 => ?_)
    exact AW.vret X (M_two_d.d 32 rfl) (Nat.le_of_ble_eq_true rfl) (Nat.le_of_ble_eq_true rfl) ⟨rfl, mp_bad (by rw [pS_17]; unfold p2; exact pn2_p hc) hc⟩

set_option maxHeartbeats 4000000 in
set_option maxRecDepth 100000 in
theorem M_two18_m {l : Launch} {G : ax_G} (S : x_S) (M : x_M) (tl : List va_E) (n : Nat) (u : Nat → Int) (t : Nat → Bool) (hG : gd M) (hW : WS n u t) (hM : MS M n u t) (num : Int) :
    AM l VV G M_two_y M_two_c 7 none 5 0 0 [.ref 153, .int 13] (x_hM S M tl) (fun v h' => v = none ∧ mp S tl M (pS 18 num n u t) h') := by
  refine AM.of (pl := pl_M) (by decide) v_good fl_M_ok kl_M_ok nofun (Nat.le_of_ble_eq_true rfl) ?_
  intro p e s m args below meth c X
  refine AW.run X M_two_d 0 2 rfl ?_
  refine AW.icmp_le X (M_two_d.d 2 rfl) (fun q2 => absurd q2 (by decide)) (fun q2 => ?_)
  refine AW.run X M_two_d 3 2 rfl ?_
  refine AW.callV (As := [.int (nI 2)]) X (M_areWhole2_m S M tl n u t hG hW hM) cb_M_423 rfl rfl M_areWhole_im M_areWhole_se rfl ⟨Nat.le_of_ble_eq_true rfl, Nat.le_of_ble_eq_true rfl⟩ (Nat.le_of_ble_eq_true rfl) ⟨Nat.le_of_ble_eq_true rfl, Nat.le_of_ble_eq_true rfl⟩ (M_two_d.d 5 rfl) (fun v h' q => ?_)
  rcases q with ⟨hc, rfl, rfl⟩ | ⟨hc, rfl, rfl⟩
  · have hn := pa2_n hc
    have hp := pa2_p hc
    obtain ⟨hw2, hw1⟩ := pwh2_w hp
    refine AW.goto X (M_two_d.d 6 rfl) ?_
    refine AW.run X M_two_d 10 2 rfl ?_
    refine AW.if_eq X (M_two_d.d 12 rfl) (fun q12 => absurd q12 (by decide)) (fun q12 => ?_)
    refine AW.run X M_two_d 13 2 rfl ?_
    refine AW.icmp_le X (M_two_d.d 15 rfl) (fun q15 => absurd q15 (by decide)) (fun q15 => ?_)
    refine AW.run X M_two_d 16 6 rfl ?_
    refine AW.mll3 (j := n - 1) X (hM.i (k := 1) (by omega)) (by have := hW.1; omega) (M_two_d.d 22 rfl) ?_
    rw [(hM.2 (n - 1) (by omega)).1]
    refine AW.run X M_two_d 23 2 rfl ?_
    refine AW.if_ne X (M_two_d.d 25 rfl) (fun q25 => ?_) (fun q25 => ?_)
    · have h0 : u (n - 1) ≠ 0 := mt (lc_eq (a := u (n - 1)) (b := 0) (zN_L (hW.2 (n - 1) (by omega)).1) ⟨by decide, by decide⟩).mpr q25
      refine AW.run X M_two_d 29 1 rfl ?_
      refine AW.callV (As := []) X (M_isGoodG_m S M tl hG) cb_M_349 rfl rfl M_isGood_im M_isGood_se rfl ⟨Nat.le_of_ble_eq_true rfl, Nat.le_of_ble_eq_true rfl⟩ (Nat.le_of_ble_eq_true rfl) ⟨Nat.le_of_ble_eq_true rfl, Nat.le_of_ble_eq_true rfl⟩ (M_two_d.d 30 rfl) (fun v h' q => ?_)
      obtain ⟨rfl, rfl⟩ := q
      refine AW.if_ne X (M_two_d.d 31 rfl) (fun q31 => ?_) (fun q31 => absurd q31 (by decide))
      refine AW.run X M_two_d 33 1 rfl ?_
      refine AW.callV (As := []) X (M_take_m S M tl n u t hW.1 hM (by omega)) cb_M_392 rfl rfl M_take_im M_take_se rfl ⟨Nat.le_of_ble_eq_true rfl, Nat.le_of_ble_eq_true rfl⟩ (Nat.le_of_ble_eq_true rfl) ⟨Nat.le_of_ble_eq_true rfl, Nat.le_of_ble_eq_true rfl⟩ (M_two_d.d 34 rfl) (fun v h' q => ?_)
      obtain ⟨rfl, rfl⟩ := q
      refine AW.run X M_two_d 35 2 rfl ?_
      refine AW.callV (As := []) X (M_take_m S (y_i M 9 (nI (n - 1))) tl (n - 1) u t (by have := hW.1; omega) hM.tk (by omega)) cb_M_392 rfl rfl M_take_im M_take_se rfl ⟨Nat.le_of_ble_eq_true rfl, Nat.le_of_ble_eq_true rfl⟩ (Nat.le_of_ble_eq_true rfl) ⟨Nat.le_of_ble_eq_true rfl, Nat.le_of_ble_eq_true rfl⟩ (M_two_d.d 37 rfl) (fun v h' q => ?_)
      obtain ⟨rfl, rfl⟩ := q
      rw [show n - 1 - 1 = n - 2 by omega]
      refine AW.run X M_two_d 38 2 rfl ?_
      refine AW.tableIn X (M_two_d.d 40 rfl) (by decide) (by decide) (off := 88) (by decide) ?_
      refine AW.run X M_two_d 67 3 rfl ?_
      refine AW.ldiv X (M_two_d.d 70 rfl) (by rw [show (0 : Int64) = lZ 0 from rfl, lZ_eq (zN_L (hW.2 (n - 1) (by omega)).1) ⟨by decide, by decide⟩]; exact h0) ?_
      refine AW.run X M_two_d 71 2 rfl ?_
      rw [lZ_div (zN_L (hW.2 (n - 2) (by omega)).1) (zN_L (hW.2 (n - 1) (by omega)).1) (Or.inl (by have := (hW.2 (n - 2) (by omega)).1.1; omega)), show (65536 : Int64) = lZ 65536 from rfl, lZ_mul]
      refine AW.callV (As := [.long (lZ ((u (n - 2)).tdiv (u (n - 1)) * 65536))]) X (M_putNumber_m S (y_i (y_i M 9 (nI (n - 1))) 9 (nI (n - 2))) tl (n - 2) u t ((u (n - 2)).tdiv (u (n - 1)) * 65536) (gd_i (by decide) (gd_i (by decide) hG)) (by have := hW.1; omega) (ms_tk2 hM) (zL_tq (hW.2 (n - 2) (by omega)).1 (hW.2 (n - 1) (by omega)).1)) cb_M_382 rfl rfl M_putNumber_im M_putNumber_se rfl ⟨Nat.le_of_ble_eq_true rfl, Nat.le_of_ble_eq_true rfl⟩ (Nat.le_of_ble_eq_true rfl) ⟨Nat.le_of_ble_eq_true rfl, Nat.le_of_ble_eq_true rfl⟩ (M_two_d.d 73 rfl) (fun v h' q => ?_)
      obtain ⟨rfl, q⟩ := q
      refine AW.goto X (M_two_d.d 74 rfl) ?_
      exact AW.vret X (M_two_d.d 80 rfl) (Nat.le_of_ble_eq_true rfl) (Nat.le_of_ble_eq_true rfl) ⟨rfl, mp_tr ((MFr.d _ _).trans (MFr.d _ _)) (by rw [pS_18]; unfold pidm; rw [if_neg (by omega), if_neg (fun z => z hp), if_neg (fun z => h0 (by omega))]; rw [(tq_w hw2 hw1).1]; exact pg_sh (by omega) hn hW.1) q⟩
    · refine AW.run X M_two_d 26 2 rfl ?_
      refine AW.callV (As := [.int (iZ 13)]) X (M_failG_m S M tl 13 hG) cb_M_356 rfl rfl M_fail_im M_fail_se rfl ⟨Nat.le_of_ble_eq_true rfl, Nat.le_of_ble_eq_true rfl⟩ (Nat.le_of_ble_eq_true rfl) ⟨Nat.le_of_ble_eq_true rfl, Nat.le_of_ble_eq_true rfl⟩ (M_two_d.d 28 rfl) (fun v h' q => ?_)
      obtain ⟨rfl, rfl⟩ := q
      refine AW.run X M_two_d 29 1 rfl ?_
      refine AW.callV (As := []) X (M_isGoodB_m S (bad M 13) tl (by rw [bad_3]; decide)) cb_M_349 rfl rfl M_isGood_im M_isGood_se rfl ⟨Nat.le_of_ble_eq_true rfl, Nat.le_of_ble_eq_true rfl⟩ (Nat.le_of_ble_eq_true rfl) ⟨Nat.le_of_ble_eq_true rfl, Nat.le_of_ble_eq_true rfl⟩ (M_two_d.d 30 rfl) (fun v h' q => ?_)
      obtain ⟨rfl, rfl⟩ := q
      refine AW.if_ne X (M_two_d.d 31 rfl) (fun q31 => absurd q31 (by decide)) (fun q31 => ?_)
      exact AW.vret X (M_two_d.d 32 rfl) (Nat.le_of_ble_eq_true rfl) (Nat.le_of_ble_eq_true rfl) ⟨rfl, mp_bad (by rw [pS_18]; unfold pidm; rw [if_neg (by omega), if_neg (fun z => z hp), if_pos (by rw [(lc_eq (a := u (n - 1)) (b := 0) (zN_L (hW.2 (n - 1) (by omega)).1) ⟨by decide, by decide⟩).mp q25]; rfl)]; rfl) (by decide)⟩
  · refine AW.goto X (M_two_d.d 6 rfl) ?_
    refine AW.run X M_two_d 10 2 rfl ?_
    refine AW.if_eq X (M_two_d.d 12 rfl) (fun q12 => ?_) (fun q12 => absurd q12 (by decide))
    refine AW.run X M_two_d 29 1 rfl ?_
    refine AW.callV (As := []) X (M_isGoodB_m S (bad M (pa2 n u t)) tl (bad_na hc)) cb_M_349 rfl rfl M_isGood_im M_isGood_se rfl ⟨Nat.le_of_ble_eq_true rfl, Nat.le_of_ble_eq_true rfl⟩ (Nat.le_of_ble_eq_true rfl) ⟨Nat.le_of_ble_eq_true rfl, Nat.le_of_ble_eq_true rfl⟩ (M_two_d.d 30 rfl) (fun v h' q => ?_)
    obtain ⟨rfl, rfl⟩ := q
    refine AW.if_ne X (M_two_d.d 31 rfl) (fun q31 => absurd q31 (by decide)) (fun q31 => ?_)
    exact AW.vret X (M_two_d.d 32 rfl) (Nat.le_of_ble_eq_true rfl) (Nat.le_of_ble_eq_true rfl) ⟨rfl, mp_bad (by rw [pS_18]; unfold pidm; exact pa2_b hc) hc⟩

set_option maxHeartbeats 4000000 in
set_option maxRecDepth 100000 in
theorem M_two19_m {l : Launch} {G : ax_G} (S : x_S) (M : x_M) (tl : List va_E) (n : Nat) (u : Nat → Int) (t : Nat → Bool) (hG : gd M) (hW : WS n u t) (hM : MS M n u t) (num : Int) :
    AM l VV G M_two_y M_two_c 7 none 5 0 0 [.ref 153, .int 14] (x_hM S M tl) (fun v h' => v = none ∧ mp S tl M (pS 19 num n u t) h') := by
  refine AM.of (pl := pl_M) (by decide) v_good fl_M_ok kl_M_ok nofun (Nat.le_of_ble_eq_true rfl) ?_
  intro p e s m args below meth c X
  refine AW.run X M_two_d 0 2 rfl ?_
  refine AW.icmp_le X (M_two_d.d 2 rfl) (fun q2 => absurd q2 (by decide)) (fun q2 => ?_)
  refine AW.run X M_two_d 3 2 rfl ?_
  refine AW.callV (As := [.int (nI 2)]) X (M_areWhole2_m S M tl n u t hG hW hM) cb_M_423 rfl rfl M_areWhole_im M_areWhole_se rfl ⟨Nat.le_of_ble_eq_true rfl, Nat.le_of_ble_eq_true rfl⟩ (Nat.le_of_ble_eq_true rfl) ⟨Nat.le_of_ble_eq_true rfl, Nat.le_of_ble_eq_true rfl⟩ (M_two_d.d 5 rfl) (fun v h' q => ?_)
  rcases q with ⟨hc, rfl, rfl⟩ | ⟨hc, rfl, rfl⟩
  · have hn := pa2_n hc
    have hp := pa2_p hc
    obtain ⟨hw2, hw1⟩ := pwh2_w hp
    refine AW.goto X (M_two_d.d 6 rfl) ?_
    refine AW.run X M_two_d 10 2 rfl ?_
    refine AW.if_eq X (M_two_d.d 12 rfl) (fun q12 => absurd q12 (by decide)) (fun q12 => ?_)
    refine AW.run X M_two_d 13 2 rfl ?_
    refine AW.icmp_le X (M_two_d.d 15 rfl) (fun q15 => absurd q15 (by decide)) (fun q15 => ?_)
    refine AW.run X M_two_d 16 6 rfl ?_
    refine AW.mll3 (j := n - 1) X (hM.i (k := 1) (by omega)) (by have := hW.1; omega) (M_two_d.d 22 rfl) ?_
    rw [(hM.2 (n - 1) (by omega)).1]
    refine AW.run X M_two_d 23 2 rfl ?_
    refine AW.if_ne X (M_two_d.d 25 rfl) (fun q25 => ?_) (fun q25 => ?_)
    · have h0 : u (n - 1) ≠ 0 := mt (lc_eq (a := u (n - 1)) (b := 0) (zN_L (hW.2 (n - 1) (by omega)).1) ⟨by decide, by decide⟩).mpr q25
      refine AW.run X M_two_d 29 1 rfl ?_
      refine AW.callV (As := []) X (M_isGoodG_m S M tl hG) cb_M_349 rfl rfl M_isGood_im M_isGood_se rfl ⟨Nat.le_of_ble_eq_true rfl, Nat.le_of_ble_eq_true rfl⟩ (Nat.le_of_ble_eq_true rfl) ⟨Nat.le_of_ble_eq_true rfl, Nat.le_of_ble_eq_true rfl⟩ (M_two_d.d 30 rfl) (fun v h' q => ?_)
      obtain ⟨rfl, rfl⟩ := q
      refine AW.if_ne X (M_two_d.d 31 rfl) (fun q31 => ?_) (fun q31 => absurd q31 (by decide))
      refine AW.run X M_two_d 33 1 rfl ?_
      refine AW.callV (As := []) X (M_take_m S M tl n u t hW.1 hM (by omega)) cb_M_392 rfl rfl M_take_im M_take_se rfl ⟨Nat.le_of_ble_eq_true rfl, Nat.le_of_ble_eq_true rfl⟩ (Nat.le_of_ble_eq_true rfl) ⟨Nat.le_of_ble_eq_true rfl, Nat.le_of_ble_eq_true rfl⟩ (M_two_d.d 34 rfl) (fun v h' q => ?_)
      obtain ⟨rfl, rfl⟩ := q
      refine AW.run X M_two_d 35 2 rfl ?_
      refine AW.callV (As := []) X (M_take_m S (y_i M 9 (nI (n - 1))) tl (n - 1) u t (by have := hW.1; omega) hM.tk (by omega)) cb_M_392 rfl rfl M_take_im M_take_se rfl ⟨Nat.le_of_ble_eq_true rfl, Nat.le_of_ble_eq_true rfl⟩ (Nat.le_of_ble_eq_true rfl) ⟨Nat.le_of_ble_eq_true rfl, Nat.le_of_ble_eq_true rfl⟩ (M_two_d.d 37 rfl) (fun v h' q => ?_)
      obtain ⟨rfl, rfl⟩ := q
      rw [show n - 1 - 1 = n - 2 by omega]
      refine AW.run X M_two_d 38 2 rfl ?_
      refine AW.tableOut X (M_two_d.d 40 rfl) (by decide) ?_
      refine AW.run X M_two_d 75 3 rfl ?_
      refine AW.lrem X (M_two_d.d 78 rfl) (by rw [show (0 : Int64) = lZ 0 from rfl, lZ_eq (zN_L (hW.2 (n - 1) (by omega)).1) ⟨by decide, by decide⟩]; exact h0) ?_
      rw [lZ_rem (hW.2 (n - 2) (by omega)).1 (hW.2 (n - 1) (by omega)).1]
      refine AW.callV (As := [.long (lZ ((u (n - 2)).tmod (u (n - 1))))]) X (M_putNumber_m S (y_i (y_i M 9 (nI (n - 1))) 9 (nI (n - 2))) tl (n - 2) u t ((u (n - 2)).tmod (u (n - 1))) (gd_i (by decide) (gd_i (by decide) hG)) (by have := hW.1; omega) (ms_tk2 hM) (zL_tm (hW.2 (n - 2) (by omega)).1 (hW.2 (n - 1) (by omega)).1)) cb_M_382 rfl rfl M_putNumber_im M_putNumber_se rfl ⟨Nat.le_of_ble_eq_true rfl, Nat.le_of_ble_eq_true rfl⟩ (Nat.le_of_ble_eq_true rfl) ⟨Nat.le_of_ble_eq_true rfl, Nat.le_of_ble_eq_true rfl⟩ (M_two_d.d 79 rfl) (fun v h' q => ?_)
      obtain ⟨rfl, q⟩ := q
      exact AW.vret X (M_two_d.d 80 rfl) (Nat.le_of_ble_eq_true rfl) (Nat.le_of_ble_eq_true rfl) ⟨rfl, mp_tr ((MFr.d _ _).trans (MFr.d _ _)) (by rw [pS_19]; unfold pidm; rw [if_neg (by omega), if_neg (fun z => z hp), if_neg (fun z => h0 (by omega))]; rw [(tq_w hw2 hw1).2]; exact pg_sh (by omega) hn hW.1) q⟩
    · refine AW.run X M_two_d 26 2 rfl ?_
      refine AW.callV (As := [.int (iZ 13)]) X (M_failG_m S M tl 13 hG) cb_M_356 rfl rfl M_fail_im M_fail_se rfl ⟨Nat.le_of_ble_eq_true rfl, Nat.le_of_ble_eq_true rfl⟩ (Nat.le_of_ble_eq_true rfl) ⟨Nat.le_of_ble_eq_true rfl, Nat.le_of_ble_eq_true rfl⟩ (M_two_d.d 28 rfl) (fun v h' q => ?_)
      obtain ⟨rfl, rfl⟩ := q
      refine AW.run X M_two_d 29 1 rfl ?_
      refine AW.callV (As := []) X (M_isGoodB_m S (bad M 13) tl (by rw [bad_3]; decide)) cb_M_349 rfl rfl M_isGood_im M_isGood_se rfl ⟨Nat.le_of_ble_eq_true rfl, Nat.le_of_ble_eq_true rfl⟩ (Nat.le_of_ble_eq_true rfl) ⟨Nat.le_of_ble_eq_true rfl, Nat.le_of_ble_eq_true rfl⟩ (M_two_d.d 30 rfl) (fun v h' q => ?_)
      obtain ⟨rfl, rfl⟩ := q
      refine AW.if_ne X (M_two_d.d 31 rfl) (fun q31 => absurd q31 (by decide)) (fun q31 => ?_)
      exact AW.vret X (M_two_d.d 32 rfl) (Nat.le_of_ble_eq_true rfl) (Nat.le_of_ble_eq_true rfl) ⟨rfl, mp_bad (by rw [pS_19]; unfold pidm; rw [if_neg (by omega), if_neg (fun z => z hp), if_pos (by rw [(lc_eq (a := u (n - 1)) (b := 0) (zN_L (hW.2 (n - 1) (by omega)).1) ⟨by decide, by decide⟩).mp q25]; rfl)]; rfl) (by decide)⟩
  · refine AW.goto X (M_two_d.d 6 rfl) ?_
    refine AW.run X M_two_d 10 2 rfl ?_
    refine AW.if_eq X (M_two_d.d 12 rfl) (fun q12 => ?_) (fun q12 => absurd q12 (by decide))
    refine AW.run X M_two_d 29 1 rfl ?_
    refine AW.callV (As := []) X (M_isGoodB_m S (bad M (pa2 n u t)) tl (bad_na hc)) cb_M_349 rfl rfl M_isGood_im M_isGood_se rfl ⟨Nat.le_of_ble_eq_true rfl, Nat.le_of_ble_eq_true rfl⟩ (Nat.le_of_ble_eq_true rfl) ⟨Nat.le_of_ble_eq_true rfl, Nat.le_of_ble_eq_true rfl⟩ (M_two_d.d 30 rfl) (fun v h' q => ?_)
    obtain ⟨rfl, rfl⟩ := q
    refine AW.if_ne X (M_two_d.d 31 rfl) (fun q31 => absurd q31 (by decide)) (fun q31 => ?_)
    exact AW.vret X (M_two_d.d 32 rfl) (Nat.le_of_ble_eq_true rfl) (Nat.le_of_ble_eq_true rfl) ⟨rfl, mp_bad (by rw [pS_19]; unfold pidm; exact pa2_b hc) hc⟩

