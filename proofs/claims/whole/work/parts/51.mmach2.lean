theorem pn1_p {n : Nat} {u : Nat → Int} {t : Nat → Bool} {b : Bool} {r : pR} (h : pn1 n t ≠ -1) : (if n < 1 then pe n u t 9 else if t (n - 1) = true then pe n u t 10 else if b = true then pe n u t 12 else r).1 = pn1 n t := by
  rcases pn1_v n t with z | z | z
  · rw [if_pos z.2, z.1]; rfl
  · rw [if_neg (by omega), if_pos z.2.2, z.1]; rfl
  · exact absurd z.1 h
theorem pn2_p {n : Nat} {u : Nat → Int} {t : Nat → Bool} {b : Bool} {r : pR} (h : pn2 n t ≠ -1) : (if n < 2 then pe n u t 9 else if t (n - 2) = true ∨ t (n - 1) = true then pe n u t 10 else if b = true then pe n u t 13 else r).1 = pn2 n t := by
  rcases pn2_v n t with z | z | z
  · rw [if_pos z.2, z.1]; rfl
  · rw [if_neg (by omega), if_pos z.2.2, z.1]; rfl
  · exact absurd z.1 h
theorem root_d : ((16777216 + 1) * (16777216 + 1) / 65536 : Int) = 4294967808 := by decide
theorem zfl_d (a : Int) : zfl a = a.fdiv 65536 * 65536 := rfl
theorem zL_abs {a : Int} (h : zN a) : zL (if a < 0 then -a else a) := by
  have := h.1
  have := h.2
  constructor <;> split <;> omega
set_option maxHeartbeats 4000000 in
set_option maxRecDepth 100000 in
theorem M_toZero_m {l : Launch} {G : ax_G} {h : List va_E} (a : Int) (ha : zN a) :
    AM l VV G M_toZero_y M_toZero_c 2 (some .long) 0 0 0 [.long (lZ a)] (h) (fun v h' => v = some (.long (lZ (ztr a))) ∧ h' = h) := by
  refine AM.of (pl := pl_M) (by decide) v_good fl_M_ok kl_M_ok nofun (Nat.le_of_ble_eq_true rfl) ?_
  intro p e s m args below meth c X
  refine AW.run X M_toZero_d 0 2 rfl ?_
  refine AW.ldiv X (M_toZero_d.d 2 rfl) (by decide) ?_
  refine AW.run X M_toZero_d 3 2 rfl ?_
  exact AW.lret X (M_toZero_d.d 5 rfl) (Nat.le_of_ble_eq_true rfl) (Nat.le_of_ble_eq_true rfl) ⟨by rw [show (65536 : Int64) = lZ 65536 from rfl, lZ_div (zN_L ha) ⟨by decide, by decide⟩ (Or.inr (by decide)), lZ_mul]; rfl, rfl⟩

set_option maxHeartbeats 4000000 in
set_option maxRecDepth 100000 in
theorem M_rootOf_m {l : Launch} {G : ax_G} {h : List va_E} (a : Int) (ha : zN a) (h0 : 0 ≤ a) :
    AM l VV G M_rootOf_y M_rootOf_c 8 (some .long) 0 0 0 [.long (lZ a)] (h) (fun v h' => v = some (.long (lZ (zroot a))) ∧ h' = h) := by
  refine AM.of (pl := pl_M) (by decide) v_good fl_M_ok kl_M_ok nofun (Nat.le_of_ble_eq_true rfl) ?_
  intro p e s m args below meth c X
  refine AW.run X M_rootOf_d 0 4 rfl ?_
  have L7 : ∀ (k : Nat) (x y : Int), y - x ≤ k → 0 ≤ x → x ≤ y → y ≤ 16777216 → x * x / 65536 ≤ a → a < (y + 1) * (y + 1) / 65536 → AW p l e (ax_R 0 0 0) s m args below meth c VV G 8 (h) 0 0 (MQ below (ax_Q VV G (fun v h' => v = some (.long (lZ (zroot a))) ∧ h' = h)) args s 0 0 (fun q => G.bs ≤ q)) 7 [(4, .long (lZ y)), (2, .long (lZ x)), (0, .long (lZ a))] [] := by
    intro k
    induction k using Nat.strongRecOn with
    | ind k ih =>
      intro x y h1 h2 h3 h4 h5 h6
      refine AW.run X M_rootOf_d 4 3 rfl ?_
      refine AW.if_ge X (M_rootOf_d.d 7 rfl) (fun q7 => ?_) (fun q7 => ?_)
      · refine AW.run X M_rootOf_d 32 1 rfl ?_
        exact AW.lret X (M_rootOf_d.d 33 rfl) (Nat.le_of_ble_eq_true rfl) (Nat.le_of_ble_eq_true rfl) ⟨by rw [zroot_eq ⟨h2, h5, by rw [show x = y by have := (lc_ge (a := x) (b := y) ⟨by omega, by omega⟩ ⟨by omega, by omega⟩).mp q7; omega]; exact h6⟩], rfl⟩
      · have hlt : x < y := Int.not_le.mp (mt (lc_ge (a := x) (b := y) ⟨by omega, by omega⟩ ⟨by omega, by omega⟩).mpr q7)
        refine AW.run X M_rootOf_d 8 6 rfl ?_
        refine AW.ldiv X (M_rootOf_d.d 14 rfl) (by decide) ?_
        rw [lZ_add, show Int64.ofNat ((1 : Fin 2) : Nat) = lZ 1 from lZ_c1, lZ_add, show (2 : Int64) = lZ 2 from rfl, lZ_div ⟨by omega, by omega⟩ ⟨by decide, by decide⟩ (Or.inr (by decide)), Int.tdiv_eq_ediv_of_nonneg (by omega)]
        generalize hm : (x + y + 1) / 2 = m0
        have hm1 : x < m0 := by omega
        have hm2 : m0 ≤ y := by omega
        have hmm : m0 * m0 ≤ 16777216 * 16777216 := Int.mul_le_mul (by omega) (by omega) (by omega) (by decide)
        have hm0 : 0 ≤ m0 * m0 := Int.mul_nonneg (by omega) (by omega)
        refine AW.run X M_rootOf_d 15 5 rfl ?_
        refine AW.ldiv X (M_rootOf_d.d 20 rfl) (by decide) ?_
        rw [lZ_mul, show (65536 : Int64) = lZ 65536 from rfl, lZ_div ⟨by omega, by omega⟩ ⟨by decide, by decide⟩ (Or.inr (by decide)), Int.tdiv_eq_ediv_of_nonneg hm0]
        refine AW.run X M_rootOf_d 21 2 rfl ?_
        refine AW.if_gt X (M_rootOf_d.d 23 rfl) (fun q23 => ?_) (fun q23 => ?_)
        · refine AW.run X M_rootOf_d 27 4 rfl ?_
          refine AW.goto X (M_rootOf_d.d 31 rfl) ?_
          refine AW.pk [0, 2, 3] rfl ?_
          rw [show Int64.ofNat ((1 : Fin 2) : Nat) = lZ 1 from lZ_c1, lZ_sub]
          exact ih (m0 - 1 - x).toNat (by omega) x (m0 - 1) (by omega) h2 (by omega) (by omega) h5 (by rw [show m0 - 1 + 1 = m0 by omega]; exact (lc_gt ⟨by omega, by omega⟩ (zN_L ha)).mp q23)
        · refine AW.run X M_rootOf_d 24 2 rfl ?_
          refine AW.goto X (M_rootOf_d.d 26 rfl) ?_
          refine AW.goto X (M_rootOf_d.d 31 rfl) ?_
          refine AW.pk [2, 0, 3] rfl ?_
          exact ih (y - m0).toNat (by omega) m0 y (by omega) (by omega) hm2 h4 (Int.not_lt.mp (mt (lc_gt ⟨by omega, by omega⟩ (zN_L ha)).mpr q23)) h6
  exact L7 16777216 0 16777216 (by decide) (by decide) (by decide) (by decide) (by show (0 : Int) * 0 / 65536 ≤ a; exact h0) (by have := ha.2; rw [root_d]; omega)

set_option maxHeartbeats 4000000 in
set_option maxRecDepth 100000 in
theorem M_one5_m {l : Launch} {G : ax_G} (S : x_S) (M : x_M) (tl : List va_E) (n : Nat) (u : Nat → Int) (t : Nat → Bool) (hG : gd M) (hW : WS n u t) (hM : MS M n u t) (num : Int) :
    AM l VV G M_one_y M_one_c 4 none 5 0 0 [.ref 153, .int 0] (x_hM S M tl) (fun v h' => v = none ∧ mp S tl M (pS 5 num n u t) h') := by
  refine AM.of (pl := pl_M) (by decide) v_good fl_M_ok kl_M_ok nofun (Nat.le_of_ble_eq_true rfl) ?_
  intro p e s m args below meth c X
  refine AW.run X M_one_d 0 2 rfl ?_
  refine AW.callV (As := [.int (nI 1)]) X (M_areNumbers1_m S M tl n u t hG hW hM) cb_M_366 rfl rfl M_areNumbers_im M_areNumbers_se rfl ⟨Nat.le_of_ble_eq_true rfl, Nat.le_of_ble_eq_true rfl⟩ (Nat.le_of_ble_eq_true rfl) ⟨Nat.le_of_ble_eq_true rfl, Nat.le_of_ble_eq_true rfl⟩ (M_one_d.d 2 rfl) (fun v h' q => ?_)
  rcases q with ⟨hc, rfl, rfl⟩ | ⟨hc, rfl, rfl⟩
  · obtain ⟨hn, ht1⟩ := pn1_o hc
    refine AW.if_ne X (M_one_d.d 3 rfl) (fun q3 => ?_) (fun q3 => absurd q3 (by decide))
    refine AW.run X M_one_d 5 1 rfl ?_
    refine AW.callV (As := []) X (M_take_m S M tl n u t hW.1 hM (by omega)) cb_M_392 rfl rfl M_take_im M_take_se rfl ⟨Nat.le_of_ble_eq_true rfl, Nat.le_of_ble_eq_true rfl⟩ (Nat.le_of_ble_eq_true rfl) ⟨Nat.le_of_ble_eq_true rfl, Nat.le_of_ble_eq_true rfl⟩ (M_one_d.d 6 rfl) (fun v h' q => ?_)
    obtain ⟨rfl, rfl⟩ := q
    refine AW.run X M_one_d 7 3 rfl ?_
    refine AW.icmp_ne X (M_one_d.d 10 rfl) (fun q10 => ?_) (fun q10 => absurd q10 (by decide))
    refine AW.run X M_one_d 19 1 rfl ?_
    refine AW.tableIn X (M_one_d.d 20 rfl) (by decide) (by decide) (off := 46) (by decide) ?_
    refine AW.run X M_one_d 21 4 rfl ?_
    refine AW.if_ge X (M_one_d.d 25 rfl) (fun q25 => ?_) (fun q25 => ?_)
    · refine AW.run X M_one_d 29 1 rfl ?_
      rw [show lZ (u (n - 1)) = lZ (if u (n - 1) < 0 then -u (n - 1) else u (n - 1)) from by rw [if_neg (by have := (lc_ge (a := u (n - 1)) (b := 0) (zN_L (hW.2 (n - 1) (by omega)).1) ⟨by decide, by decide⟩).mp q25; omega)]]
      refine AW.callV (As := [.long (lZ (if u (n - 1) < 0 then -u (n - 1) else u (n - 1)))]) X (M_putNumber_m S (y_i M 9 (nI (n - 1))) tl (n - 1) u t (if u (n - 1) < 0 then -u (n - 1) else u (n - 1)) (gd_i (by decide) hG) (by have := hW.1; omega) hM.tk (zL_abs (hW.2 (n - 1) (by omega)).1)) cb_M_382 rfl rfl M_putNumber_im M_putNumber_se rfl ⟨Nat.le_of_ble_eq_true rfl, Nat.le_of_ble_eq_true rfl⟩ (Nat.le_of_ble_eq_true rfl) ⟨Nat.le_of_ble_eq_true rfl, Nat.le_of_ble_eq_true rfl⟩ (M_one_d.d 30 rfl) (fun v h' q => ?_)
      obtain ⟨rfl, q⟩ := q
      refine AW.goto X (M_one_d.d 31 rfl) ?_
      exact AW.vret X (M_one_d.d 78 rfl) (Nat.le_of_ble_eq_true rfl) (Nat.le_of_ble_eq_true rfl) ⟨rfl, mp_tr (MFr.d _ _) (by rw [pS_5]; unfold p1; rw [if_neg (by omega), if_neg (by rw [ht1]; decide), if_neg Bool.false_ne_true]; exact pg_sh (by omega) hn hW.1) q⟩
    · refine AW.run X M_one_d 26 2 rfl ?_
      refine AW.goto X (M_one_d.d 28 rfl) ?_
      rw [lZ_neg, show lZ (-u (n - 1)) = lZ (if u (n - 1) < 0 then -u (n - 1) else u (n - 1)) from by rw [if_pos (Int.not_le.mp (mt (lc_ge (a := u (n - 1)) (b := 0) (zN_L (hW.2 (n - 1) (by omega)).1) ⟨by decide, by decide⟩).mpr q25))]]
      refine AW.callV (As := [.long (lZ (if u (n - 1) < 0 then -u (n - 1) else u (n - 1)))]) X (M_putNumber_m S (y_i M 9 (nI (n - 1))) tl (n - 1) u t (if u (n - 1) < 0 then -u (n - 1) else u (n - 1)) (gd_i (by decide) hG) (by have := hW.1; omega) hM.tk (zL_abs (hW.2 (n - 1) (by omega)).1)) cb_M_382 rfl rfl M_putNumber_im M_putNumber_se rfl ⟨Nat.le_of_ble_eq_true rfl, Nat.le_of_ble_eq_true rfl⟩ (Nat.le_of_ble_eq_true rfl) ⟨Nat.le_of_ble_eq_true rfl, Nat.le_of_ble_eq_true rfl⟩ (M_one_d.d 30 rfl) (fun v h' q => ?_)
      obtain ⟨rfl, q⟩ := q
      refine AW.goto X (M_one_d.d 31 rfl) ?_
      exact AW.vret X (M_one_d.d 78 rfl) (Nat.le_of_ble_eq_true rfl) (Nat.le_of_ble_eq_true rfl) ⟨rfl, mp_tr (MFr.d _ _) (by rw [pS_5]; unfold p1; rw [if_neg (by omega), if_neg (by rw [ht1]; decide), if_neg Bool.false_ne_true]; exact pg_sh (by omega) hn hW.1) q⟩
  · refine AW.if_ne X (M_one_d.d 3 rfl) (fun q3 => absurd q3 (by decide)) (fun q3 => ?_)
    exact AW.vret X (M_one_d.d 4 rfl) (Nat.le_of_ble_eq_true rfl) (Nat.le_of_ble_eq_true rfl) ⟨rfl, mp_bad (by rw [pS_5]; unfold p1; exact pn1_p hc) hc⟩

set_option maxHeartbeats 4000000 in
set_option maxRecDepth 100000 in
theorem M_one6_m {l : Launch} {G : ax_G} (S : x_S) (M : x_M) (tl : List va_E) (n : Nat) (u : Nat → Int) (t : Nat → Bool) (hG : gd M) (hW : WS n u t) (hM : MS M n u t) (num : Int) :
    AM l VV G M_one_y M_one_c 4 none 5 0 0 [.ref 153, .int 1] (x_hM S M tl) (fun v h' => v = none ∧ mp S tl M (pS 6 num n u t) h') := by
  refine AM.of (pl := pl_M) (by decide) v_good fl_M_ok kl_M_ok nofun (Nat.le_of_ble_eq_true rfl) ?_
  intro p e s m args below meth c X
  refine AW.run X M_one_d 0 2 rfl ?_
  refine AW.callV (As := [.int (nI 1)]) X (M_areNumbers1_m S M tl n u t hG hW hM) cb_M_366 rfl rfl M_areNumbers_im M_areNumbers_se rfl ⟨Nat.le_of_ble_eq_true rfl, Nat.le_of_ble_eq_true rfl⟩ (Nat.le_of_ble_eq_true rfl) ⟨Nat.le_of_ble_eq_true rfl, Nat.le_of_ble_eq_true rfl⟩ (M_one_d.d 2 rfl) (fun v h' q => ?_)
  rcases q with ⟨hc, rfl, rfl⟩ | ⟨hc, rfl, rfl⟩
  · obtain ⟨hn, ht1⟩ := pn1_o hc
    refine AW.if_ne X (M_one_d.d 3 rfl) (fun q3 => ?_) (fun q3 => absurd q3 (by decide))
    refine AW.run X M_one_d 5 1 rfl ?_
    refine AW.callV (As := []) X (M_take_m S M tl n u t hW.1 hM (by omega)) cb_M_392 rfl rfl M_take_im M_take_se rfl ⟨Nat.le_of_ble_eq_true rfl, Nat.le_of_ble_eq_true rfl⟩ (Nat.le_of_ble_eq_true rfl) ⟨Nat.le_of_ble_eq_true rfl, Nat.le_of_ble_eq_true rfl⟩ (M_one_d.d 6 rfl) (fun v h' q => ?_)
    obtain ⟨rfl, rfl⟩ := q
    refine AW.run X M_one_d 7 3 rfl ?_
    refine AW.icmp_ne X (M_one_d.d 10 rfl) (fun q10 => ?_) (fun q10 => absurd q10 (by decide))
    refine AW.run X M_one_d 19 1 rfl ?_
    refine AW.tableIn X (M_one_d.d 20 rfl) (by decide) (by decide) (off := 65) (by decide) ?_
    refine AW.run X M_one_d 32 3 rfl ?_
    rw [lZ_neg]
    refine AW.callV (As := [.long (lZ (-u (n - 1)))]) X (M_putNumber_m S (y_i M 9 (nI (n - 1))) tl (n - 1) u t (-u (n - 1)) (gd_i (by decide) hG) (by have := hW.1; omega) hM.tk (zN_L (zN_neg (hW.2 (n - 1) (by omega)).1))) cb_M_382 rfl rfl M_putNumber_im M_putNumber_se rfl ⟨Nat.le_of_ble_eq_true rfl, Nat.le_of_ble_eq_true rfl⟩ (Nat.le_of_ble_eq_true rfl) ⟨Nat.le_of_ble_eq_true rfl, Nat.le_of_ble_eq_true rfl⟩ (M_one_d.d 35 rfl) (fun v h' q => ?_)
    obtain ⟨rfl, q⟩ := q
    refine AW.goto X (M_one_d.d 36 rfl) ?_
    exact AW.vret X (M_one_d.d 78 rfl) (Nat.le_of_ble_eq_true rfl) (Nat.le_of_ble_eq_true rfl) ⟨rfl, mp_tr (MFr.d _ _) (by rw [pS_6]; unfold p1; rw [if_neg (by omega), if_neg (by rw [ht1]; decide), if_neg Bool.false_ne_true]; exact pg_sh (by omega) hn hW.1) q⟩
  · refine AW.if_ne X (M_one_d.d 3 rfl) (fun q3 => absurd q3 (by decide)) (fun q3 => ?_)
    exact AW.vret X (M_one_d.d 4 rfl) (Nat.le_of_ble_eq_true rfl) (Nat.le_of_ble_eq_true rfl) ⟨rfl, mp_bad (by rw [pS_6]; unfold p1; exact pn1_p hc) hc⟩

set_option maxHeartbeats 4000000 in
set_option maxRecDepth 100000 in
theorem M_one7_m {l : Launch} {G : ax_G} (S : x_S) (M : x_M) (tl : List va_E) (n : Nat) (u : Nat → Int) (t : Nat → Bool) (hG : gd M) (hW : WS n u t) (hM : MS M n u t) (num : Int) :
    AM l VV G M_one_y M_one_c 4 none 5 0 0 [.ref 153, .int 2] (x_hM S M tl) (fun v h' => v = none ∧ mp S tl M (pS 7 num n u t) h') := by
  refine AM.of (pl := pl_M) (by decide) v_good fl_M_ok kl_M_ok nofun (Nat.le_of_ble_eq_true rfl) ?_
  intro p e s m args below meth c X
  refine AW.run X M_one_d 0 2 rfl ?_
  refine AW.callV (As := [.int (nI 1)]) X (M_areNumbers1_m S M tl n u t hG hW hM) cb_M_366 rfl rfl M_areNumbers_im M_areNumbers_se rfl ⟨Nat.le_of_ble_eq_true rfl, Nat.le_of_ble_eq_true rfl⟩ (Nat.le_of_ble_eq_true rfl) ⟨Nat.le_of_ble_eq_true rfl, Nat.le_of_ble_eq_true rfl⟩ (M_one_d.d 2 rfl) (fun v h' q => ?_)
  rcases q with ⟨hc, rfl, rfl⟩ | ⟨hc, rfl, rfl⟩
  · obtain ⟨hn, ht1⟩ := pn1_o hc
    refine AW.if_ne X (M_one_d.d 3 rfl) (fun q3 => ?_) (fun q3 => absurd q3 (by decide))
    refine AW.run X M_one_d 5 1 rfl ?_
    refine AW.callV (As := []) X (M_take_m S M tl n u t hW.1 hM (by omega)) cb_M_392 rfl rfl M_take_im M_take_se rfl ⟨Nat.le_of_ble_eq_true rfl, Nat.le_of_ble_eq_true rfl⟩ (Nat.le_of_ble_eq_true rfl) ⟨Nat.le_of_ble_eq_true rfl, Nat.le_of_ble_eq_true rfl⟩ (M_one_d.d 6 rfl) (fun v h' q => ?_)
    obtain ⟨rfl, rfl⟩ := q
    refine AW.run X M_one_d 7 3 rfl ?_
    refine AW.icmp_ne X (M_one_d.d 10 rfl) (fun q10 => ?_) (fun q10 => absurd q10 (by decide))
    refine AW.run X M_one_d 19 1 rfl ?_
    refine AW.tableIn X (M_one_d.d 20 rfl) (by decide) (by decide) (off := 74) (by decide) ?_
    refine AW.run X M_one_d 37 4 rfl ?_
    rw [lZ_neg, show (65536 : Int64) = lZ 65536 from rfl]
    refine AW.callS (As := [.long (lZ (-u (n - 1))), .long (lZ 65536)]) X (M_down_m (-u (n - 1)) 65536 (zN_L (zN_neg (hW.2 (n - 1) (by omega)).1)) ⟨by decide, by decide⟩ (by decide) (Or.inr (by decide))) cb_M_116 M_down_st rfl ⟨Nat.le_of_ble_eq_true rfl, Nat.le_of_ble_eq_true rfl⟩ (Nat.le_of_ble_eq_true rfl) ⟨Nat.le_of_ble_eq_true rfl, Nat.le_of_ble_eq_true rfl⟩ (M_one_d.d 41 rfl) (fun v h' q => ?_)
    obtain ⟨rfl, rfl⟩ := q
    refine AW.run X M_one_d 42 3 rfl ?_
    rw [show -lZ ((-u (n - 1)).fdiv 65536) * (65536 : Int64) = lZ (-zfl (-u (n - 1))) from by rw [show (65536 : Int64) = lZ 65536 from rfl, lZ_neg, lZ_mul]; congr 1; rw [zfl_d]; omega]
    refine AW.callV (As := [.long (lZ (-zfl (-u (n - 1))))]) X (M_putNumber_m S (y_i M 9 (nI (n - 1))) tl (n - 1) u t (-zfl (-u (n - 1))) (gd_i (by decide) hG) (by have := hW.1; omega) hM.tk (zL_fl (zN_neg (hW.2 (n - 1) (by omega)).1)).2) cb_M_382 rfl rfl M_putNumber_im M_putNumber_se rfl ⟨Nat.le_of_ble_eq_true rfl, Nat.le_of_ble_eq_true rfl⟩ (Nat.le_of_ble_eq_true rfl) ⟨Nat.le_of_ble_eq_true rfl, Nat.le_of_ble_eq_true rfl⟩ (M_one_d.d 45 rfl) (fun v h' q => ?_)
    obtain ⟨rfl, q⟩ := q
    refine AW.goto X (M_one_d.d 46 rfl) ?_
    exact AW.vret X (M_one_d.d 78 rfl) (Nat.le_of_ble_eq_true rfl) (Nat.le_of_ble_eq_true rfl) ⟨rfl, mp_tr (MFr.d _ _) (by rw [pS_7]; unfold p1; rw [if_neg (by omega), if_neg (by rw [ht1]; decide), if_neg Bool.false_ne_true]; exact pg_sh (by omega) hn hW.1) q⟩
  · refine AW.if_ne X (M_one_d.d 3 rfl) (fun q3 => absurd q3 (by decide)) (fun q3 => ?_)
    exact AW.vret X (M_one_d.d 4 rfl) (Nat.le_of_ble_eq_true rfl) (Nat.le_of_ble_eq_true rfl) ⟨rfl, mp_bad (by rw [pS_7]; unfold p1; exact pn1_p hc) hc⟩

set_option maxHeartbeats 4000000 in
set_option maxRecDepth 100000 in
theorem M_one8_m {l : Launch} {G : ax_G} (S : x_S) (M : x_M) (tl : List va_E) (n : Nat) (u : Nat → Int) (t : Nat → Bool) (hG : gd M) (hW : WS n u t) (hM : MS M n u t) (num : Int) :
    AM l VV G M_one_y M_one_c 4 none 5 0 0 [.ref 153, .int 3] (x_hM S M tl) (fun v h' => v = none ∧ mp S tl M (pS 8 num n u t) h') := by
  refine AM.of (pl := pl_M) (by decide) v_good fl_M_ok kl_M_ok nofun (Nat.le_of_ble_eq_true rfl) ?_
  intro p e s m args below meth c X
  refine AW.run X M_one_d 0 2 rfl ?_
  refine AW.callV (As := [.int (nI 1)]) X (M_areNumbers1_m S M tl n u t hG hW hM) cb_M_366 rfl rfl M_areNumbers_im M_areNumbers_se rfl ⟨Nat.le_of_ble_eq_true rfl, Nat.le_of_ble_eq_true rfl⟩ (Nat.le_of_ble_eq_true rfl) ⟨Nat.le_of_ble_eq_true rfl, Nat.le_of_ble_eq_true rfl⟩ (M_one_d.d 2 rfl) (fun v h' q => ?_)
  rcases q with ⟨hc, rfl, rfl⟩ | ⟨hc, rfl, rfl⟩
  · obtain ⟨hn, ht1⟩ := pn1_o hc
    refine AW.if_ne X (M_one_d.d 3 rfl) (fun q3 => ?_) (fun q3 => absurd q3 (by decide))
    refine AW.run X M_one_d 5 1 rfl ?_
    refine AW.callV (As := []) X (M_take_m S M tl n u t hW.1 hM (by omega)) cb_M_392 rfl rfl M_take_im M_take_se rfl ⟨Nat.le_of_ble_eq_true rfl, Nat.le_of_ble_eq_true rfl⟩ (Nat.le_of_ble_eq_true rfl) ⟨Nat.le_of_ble_eq_true rfl, Nat.le_of_ble_eq_true rfl⟩ (M_one_d.d 6 rfl) (fun v h' q => ?_)
    obtain ⟨rfl, rfl⟩ := q
    refine AW.run X M_one_d 7 3 rfl ?_
    refine AW.icmp_ne X (M_one_d.d 10 rfl) (fun q10 => ?_) (fun q10 => absurd q10 (by decide))
    refine AW.run X M_one_d 19 1 rfl ?_
    refine AW.tableIn X (M_one_d.d 20 rfl) (by decide) (by decide) (off := 94) (by decide) ?_
    refine AW.run X M_one_d 47 3 rfl ?_
    rw [show (65536 : Int64) = lZ 65536 from rfl]
    refine AW.callS (As := [.long (lZ (u (n - 1))), .long (lZ 65536)]) X (M_down_m (u (n - 1)) 65536 (zN_L (hW.2 (n - 1) (by omega)).1) ⟨by decide, by decide⟩ (by decide) (Or.inr (by decide))) cb_M_116 M_down_st rfl ⟨Nat.le_of_ble_eq_true rfl, Nat.le_of_ble_eq_true rfl⟩ (Nat.le_of_ble_eq_true rfl) ⟨Nat.le_of_ble_eq_true rfl, Nat.le_of_ble_eq_true rfl⟩ (M_one_d.d 50 rfl) (fun v h' q => ?_)
    obtain ⟨rfl, rfl⟩ := q
    refine AW.run X M_one_d 51 2 rfl ?_
    rw [show lZ ((u (n - 1)).fdiv 65536) * (65536 : Int64) = lZ (zfl (u (n - 1))) from lZ_mul _ 65536]
    refine AW.callV (As := [.long (lZ (zfl (u (n - 1))))]) X (M_putNumber_m S (y_i M 9 (nI (n - 1))) tl (n - 1) u t (zfl (u (n - 1))) (gd_i (by decide) hG) (by have := hW.1; omega) hM.tk (zL_fl (hW.2 (n - 1) (by omega)).1).1) cb_M_382 rfl rfl M_putNumber_im M_putNumber_se rfl ⟨Nat.le_of_ble_eq_true rfl, Nat.le_of_ble_eq_true rfl⟩ (Nat.le_of_ble_eq_true rfl) ⟨Nat.le_of_ble_eq_true rfl, Nat.le_of_ble_eq_true rfl⟩ (M_one_d.d 53 rfl) (fun v h' q => ?_)
    obtain ⟨rfl, q⟩ := q
    refine AW.goto X (M_one_d.d 54 rfl) ?_
    exact AW.vret X (M_one_d.d 78 rfl) (Nat.le_of_ble_eq_true rfl) (Nat.le_of_ble_eq_true rfl) ⟨rfl, mp_tr (MFr.d _ _) (by rw [pS_8]; unfold p1; rw [if_neg (by omega), if_neg (by rw [ht1]; decide), if_neg Bool.false_ne_true]; exact pg_sh (by omega) hn hW.1) q⟩
  · refine AW.if_ne X (M_one_d.d 3 rfl) (fun q3 => absurd q3 (by decide)) (fun q3 => ?_)
    exact AW.vret X (M_one_d.d 4 rfl) (Nat.le_of_ble_eq_true rfl) (Nat.le_of_ble_eq_true rfl) ⟨rfl, mp_bad (by rw [pS_8]; unfold p1; exact pn1_p hc) hc⟩

set_option maxHeartbeats 4000000 in
set_option maxRecDepth 100000 in
theorem M_one9_m {l : Launch} {G : ax_G} (S : x_S) (M : x_M) (tl : List va_E) (n : Nat) (u : Nat → Int) (t : Nat → Bool) (hG : gd M) (hW : WS n u t) (hM : MS M n u t) (num : Int) :
    AM l VV G M_one_y M_one_c 4 none 5 0 0 [.ref 153, .int 4] (x_hM S M tl) (fun v h' => v = none ∧ mp S tl M (pS 9 num n u t) h') := by
  refine AM.of (pl := pl_M) (by decide) v_good fl_M_ok kl_M_ok nofun (Nat.le_of_ble_eq_true rfl) ?_
  intro p e s m args below meth c X
  refine AW.run X M_one_d 0 2 rfl ?_
  refine AW.callV (As := [.int (nI 1)]) X (M_areNumbers1_m S M tl n u t hG hW hM) cb_M_366 rfl rfl M_areNumbers_im M_areNumbers_se rfl ⟨Nat.le_of_ble_eq_true rfl, Nat.le_of_ble_eq_true rfl⟩ (Nat.le_of_ble_eq_true rfl) ⟨Nat.le_of_ble_eq_true rfl, Nat.le_of_ble_eq_true rfl⟩ (M_one_d.d 2 rfl) (fun v h' q => ?_)
  rcases q with ⟨hc, rfl, rfl⟩ | ⟨hc, rfl, rfl⟩
  · obtain ⟨hn, ht1⟩ := pn1_o hc
    refine AW.if_ne X (M_one_d.d 3 rfl) (fun q3 => ?_) (fun q3 => absurd q3 (by decide))
    refine AW.run X M_one_d 5 1 rfl ?_
    refine AW.callV (As := []) X (M_take_m S M tl n u t hW.1 hM (by omega)) cb_M_392 rfl rfl M_take_im M_take_se rfl ⟨Nat.le_of_ble_eq_true rfl, Nat.le_of_ble_eq_true rfl⟩ (Nat.le_of_ble_eq_true rfl) ⟨Nat.le_of_ble_eq_true rfl, Nat.le_of_ble_eq_true rfl⟩ (M_one_d.d 6 rfl) (fun v h' q => ?_)
    obtain ⟨rfl, rfl⟩ := q
    refine AW.run X M_one_d 7 3 rfl ?_
    refine AW.icmp_ne X (M_one_d.d 10 rfl) (fun q10 => ?_) (fun q10 => absurd q10 (by decide))
    refine AW.run X M_one_d 19 1 rfl ?_
    refine AW.tableIn X (M_one_d.d 20 rfl) (by decide) (by decide) (off := 112) (by decide) ?_
    refine AW.run X M_one_d 55 5 rfl ?_
    rw [show (65536 : Int64) = lZ 65536 from rfl, show (32768 : Int64) = lZ 32768 from rfl, lZ_add]
    refine AW.callS (As := [.long (lZ (u (n - 1) + 32768)), .long (lZ 65536)]) X (M_down_m (u (n - 1) + 32768) 65536 ⟨by have := (hW.2 (n - 1) (by omega)).1.1; omega, by have := (hW.2 (n - 1) (by omega)).1.2; omega⟩ ⟨by decide, by decide⟩ (by decide) (Or.inr (by decide))) cb_M_116 M_down_st rfl ⟨Nat.le_of_ble_eq_true rfl, Nat.le_of_ble_eq_true rfl⟩ (Nat.le_of_ble_eq_true rfl) ⟨Nat.le_of_ble_eq_true rfl, Nat.le_of_ble_eq_true rfl⟩ (M_one_d.d 60 rfl) (fun v h' q => ?_)
    obtain ⟨rfl, rfl⟩ := q
    refine AW.run X M_one_d 61 2 rfl ?_
    rw [show lZ ((u (n - 1) + 32768).fdiv 65536) * (65536 : Int64) = lZ (zfl (u (n - 1) + 32768)) from lZ_mul _ 65536]
    refine AW.callV (As := [.long (lZ (zfl (u (n - 1) + 32768)))]) X (M_putNumber_m S (y_i M 9 (nI (n - 1))) tl (n - 1) u t (zfl (u (n - 1) + 32768)) (gd_i (by decide) hG) (by have := hW.1; omega) hM.tk (zL_f3 (hW.2 (n - 1) (by omega)).1)) cb_M_382 rfl rfl M_putNumber_im M_putNumber_se rfl ⟨Nat.le_of_ble_eq_true rfl, Nat.le_of_ble_eq_true rfl⟩ (Nat.le_of_ble_eq_true rfl) ⟨Nat.le_of_ble_eq_true rfl, Nat.le_of_ble_eq_true rfl⟩ (M_one_d.d 63 rfl) (fun v h' q => ?_)
    obtain ⟨rfl, q⟩ := q
    refine AW.goto X (M_one_d.d 64 rfl) ?_
    exact AW.vret X (M_one_d.d 78 rfl) (Nat.le_of_ble_eq_true rfl) (Nat.le_of_ble_eq_true rfl) ⟨rfl, mp_tr (MFr.d _ _) (by rw [pS_9]; unfold p1; rw [if_neg (by omega), if_neg (by rw [ht1]; decide), if_neg Bool.false_ne_true]; exact pg_sh (by omega) hn hW.1) q⟩
  · refine AW.if_ne X (M_one_d.d 3 rfl) (fun q3 => absurd q3 (by decide)) (fun q3 => ?_)
    exact AW.vret X (M_one_d.d 4 rfl) (Nat.le_of_ble_eq_true rfl) (Nat.le_of_ble_eq_true rfl) ⟨rfl, mp_bad (by rw [pS_9]; unfold p1; exact pn1_p hc) hc⟩

set_option maxHeartbeats 4000000 in
set_option maxRecDepth 100000 in
theorem M_one10_m {l : Launch} {G : ax_G} (S : x_S) (M : x_M) (tl : List va_E) (n : Nat) (u : Nat → Int) (t : Nat → Bool) (hG : gd M) (hW : WS n u t) (hM : MS M n u t) (num : Int) :
    AM l VV G M_one_y M_one_c 4 none 5 0 0 [.ref 153, .int 5] (x_hM S M tl) (fun v h' => v = none ∧ mp S tl M (pS 10 num n u t) h') := by
  refine AM.of (pl := pl_M) (by decide) v_good fl_M_ok kl_M_ok nofun (Nat.le_of_ble_eq_true rfl) ?_
  intro p e s m args below meth c X
  refine AW.run X M_one_d 0 2 rfl ?_
  refine AW.callV (As := [.int (nI 1)]) X (M_areNumbers1_m S M tl n u t hG hW hM) cb_M_366 rfl rfl M_areNumbers_im M_areNumbers_se rfl ⟨Nat.le_of_ble_eq_true rfl, Nat.le_of_ble_eq_true rfl⟩ (Nat.le_of_ble_eq_true rfl) ⟨Nat.le_of_ble_eq_true rfl, Nat.le_of_ble_eq_true rfl⟩ (M_one_d.d 2 rfl) (fun v h' q => ?_)
  rcases q with ⟨hc, rfl, rfl⟩ | ⟨hc, rfl, rfl⟩
  · obtain ⟨hn, ht1⟩ := pn1_o hc
    refine AW.if_ne X (M_one_d.d 3 rfl) (fun q3 => ?_) (fun q3 => absurd q3 (by decide))
    refine AW.run X M_one_d 5 1 rfl ?_
    refine AW.callV (As := []) X (M_take_m S M tl n u t hW.1 hM (by omega)) cb_M_392 rfl rfl M_take_im M_take_se rfl ⟨Nat.le_of_ble_eq_true rfl, Nat.le_of_ble_eq_true rfl⟩ (Nat.le_of_ble_eq_true rfl) ⟨Nat.le_of_ble_eq_true rfl, Nat.le_of_ble_eq_true rfl⟩ (M_one_d.d 6 rfl) (fun v h' q => ?_)
    obtain ⟨rfl, rfl⟩ := q
    refine AW.run X M_one_d 7 3 rfl ?_
    refine AW.icmp_ne X (M_one_d.d 10 rfl) (fun q10 => ?_) (fun q10 => absurd q10 (by decide))
    refine AW.run X M_one_d 19 1 rfl ?_
    refine AW.tableIn X (M_one_d.d 20 rfl) (by decide) (by decide) (off := 134) (by decide) ?_
    refine AW.run X M_one_d 65 2 rfl ?_
    refine AW.callS (As := [.long (lZ (u (n - 1)))]) X (M_toZero_m (u (n - 1)) (hW.2 (n - 1) (by omega)).1) cb_M_417 M_toZero_st rfl ⟨Nat.le_of_ble_eq_true rfl, Nat.le_of_ble_eq_true rfl⟩ (Nat.le_of_ble_eq_true rfl) ⟨Nat.le_of_ble_eq_true rfl, Nat.le_of_ble_eq_true rfl⟩ (M_one_d.d 67 rfl) (fun v h' q => ?_)
    obtain ⟨rfl, rfl⟩ := q
    refine AW.callV (As := [.long (lZ (ztr (u (n - 1))))]) X (M_putNumber_m S (y_i M 9 (nI (n - 1))) tl (n - 1) u t (ztr (u (n - 1))) (gd_i (by decide) hG) (by have := hW.1; omega) hM.tk (zL_tr (hW.2 (n - 1) (by omega)).1)) cb_M_382 rfl rfl M_putNumber_im M_putNumber_se rfl ⟨Nat.le_of_ble_eq_true rfl, Nat.le_of_ble_eq_true rfl⟩ (Nat.le_of_ble_eq_true rfl) ⟨Nat.le_of_ble_eq_true rfl, Nat.le_of_ble_eq_true rfl⟩ (M_one_d.d 68 rfl) (fun v h' q => ?_)
    obtain ⟨rfl, q⟩ := q
    refine AW.goto X (M_one_d.d 69 rfl) ?_
    exact AW.vret X (M_one_d.d 78 rfl) (Nat.le_of_ble_eq_true rfl) (Nat.le_of_ble_eq_true rfl) ⟨rfl, mp_tr (MFr.d _ _) (by rw [pS_10]; unfold p1; rw [if_neg (by omega), if_neg (by rw [ht1]; decide), if_neg Bool.false_ne_true]; exact pg_sh (by omega) hn hW.1) q⟩
  · refine AW.if_ne X (M_one_d.d 3 rfl) (fun q3 => absurd q3 (by decide)) (fun q3 => ?_)
    exact AW.vret X (M_one_d.d 4 rfl) (Nat.le_of_ble_eq_true rfl) (Nat.le_of_ble_eq_true rfl) ⟨rfl, mp_bad (by rw [pS_10]; unfold p1; exact pn1_p hc) hc⟩

set_option maxHeartbeats 4000000 in
set_option maxRecDepth 100000 in
theorem M_one11_m {l : Launch} {G : ax_G} (S : x_S) (M : x_M) (tl : List va_E) (n : Nat) (u : Nat → Int) (t : Nat → Bool) (hG : gd M) (hW : WS n u t) (hM : MS M n u t) (num : Int) :
    AM l VV G M_one_y M_one_c 4 none 5 0 0 [.ref 153, .int 6] (x_hM S M tl) (fun v h' => v = none ∧ mp S tl M (pS 11 num n u t) h') := by
  refine AM.of (pl := pl_M) (by decide) v_good fl_M_ok kl_M_ok nofun (Nat.le_of_ble_eq_true rfl) ?_
  intro p e s m args below meth c X
  refine AW.run X M_one_d 0 2 rfl ?_
  refine AW.callV (As := [.int (nI 1)]) X (M_areNumbers1_m S M tl n u t hG hW hM) cb_M_366 rfl rfl M_areNumbers_im M_areNumbers_se rfl ⟨Nat.le_of_ble_eq_true rfl, Nat.le_of_ble_eq_true rfl⟩ (Nat.le_of_ble_eq_true rfl) ⟨Nat.le_of_ble_eq_true rfl, Nat.le_of_ble_eq_true rfl⟩ (M_one_d.d 2 rfl) (fun v h' q => ?_)
  rcases q with ⟨hc, rfl, rfl⟩ | ⟨hc, rfl, rfl⟩
  · obtain ⟨hn, ht1⟩ := pn1_o hc
    refine AW.if_ne X (M_one_d.d 3 rfl) (fun q3 => ?_) (fun q3 => absurd q3 (by decide))
    refine AW.run X M_one_d 5 1 rfl ?_
    refine AW.callV (As := []) X (M_take_m S M tl n u t hW.1 hM (by omega)) cb_M_392 rfl rfl M_take_im M_take_se rfl ⟨Nat.le_of_ble_eq_true rfl, Nat.le_of_ble_eq_true rfl⟩ (Nat.le_of_ble_eq_true rfl) ⟨Nat.le_of_ble_eq_true rfl, Nat.le_of_ble_eq_true rfl⟩ (M_one_d.d 6 rfl) (fun v h' q => ?_)
    obtain ⟨rfl, rfl⟩ := q
    refine AW.run X M_one_d 7 3 rfl ?_
    refine AW.icmp_ne X (M_one_d.d 10 rfl) (fun q10 => ?_) (fun q10 => absurd q10 (by decide))
    refine AW.run X M_one_d 19 1 rfl ?_
    refine AW.tableIn X (M_one_d.d 20 rfl) (by decide) (by decide) (off := 134) (by decide) ?_
    refine AW.run X M_one_d 65 2 rfl ?_
    refine AW.callS (As := [.long (lZ (u (n - 1)))]) X (M_toZero_m (u (n - 1)) (hW.2 (n - 1) (by omega)).1) cb_M_417 M_toZero_st rfl ⟨Nat.le_of_ble_eq_true rfl, Nat.le_of_ble_eq_true rfl⟩ (Nat.le_of_ble_eq_true rfl) ⟨Nat.le_of_ble_eq_true rfl, Nat.le_of_ble_eq_true rfl⟩ (M_one_d.d 67 rfl) (fun v h' q => ?_)
    obtain ⟨rfl, rfl⟩ := q
    refine AW.callV (As := [.long (lZ (ztr (u (n - 1))))]) X (M_putNumber_m S (y_i M 9 (nI (n - 1))) tl (n - 1) u t (ztr (u (n - 1))) (gd_i (by decide) hG) (by have := hW.1; omega) hM.tk (zL_tr (hW.2 (n - 1) (by omega)).1)) cb_M_382 rfl rfl M_putNumber_im M_putNumber_se rfl ⟨Nat.le_of_ble_eq_true rfl, Nat.le_of_ble_eq_true rfl⟩ (Nat.le_of_ble_eq_true rfl) ⟨Nat.le_of_ble_eq_true rfl, Nat.le_of_ble_eq_true rfl⟩ (M_one_d.d 68 rfl) (fun v h' q => ?_)
    obtain ⟨rfl, q⟩ := q
    refine AW.goto X (M_one_d.d 69 rfl) ?_
    exact AW.vret X (M_one_d.d 78 rfl) (Nat.le_of_ble_eq_true rfl) (Nat.le_of_ble_eq_true rfl) ⟨rfl, mp_tr (MFr.d _ _) (by rw [pS_11]; unfold p1; rw [if_neg (by omega), if_neg (by rw [ht1]; decide), if_neg Bool.false_ne_true]; exact pg_sh (by omega) hn hW.1) q⟩
  · refine AW.if_ne X (M_one_d.d 3 rfl) (fun q3 => absurd q3 (by decide)) (fun q3 => ?_)
    exact AW.vret X (M_one_d.d 4 rfl) (Nat.le_of_ble_eq_true rfl) (Nat.le_of_ble_eq_true rfl) ⟨rfl, mp_bad (by rw [pS_11]; unfold p1; exact pn1_p hc) hc⟩

set_option maxHeartbeats 4000000 in
set_option maxRecDepth 100000 in
theorem M_one12_m {l : Launch} {G : ax_G} (S : x_S) (M : x_M) (tl : List va_E) (n : Nat) (u : Nat → Int) (t : Nat → Bool) (hG : gd M) (hW : WS n u t) (hM : MS M n u t) (num : Int) :
    AM l VV G M_one_y M_one_c 4 none 5 0 0 [.ref 153, .int 7] (x_hM S M tl) (fun v h' => v = none ∧ mp S tl M (pS 12 num n u t) h') := by
  refine AM.of (pl := pl_M) (by decide) v_good fl_M_ok kl_M_ok nofun (Nat.le_of_ble_eq_true rfl) ?_
  intro p e s m args below meth c X
  refine AW.run X M_one_d 0 2 rfl ?_
  refine AW.callV (As := [.int (nI 1)]) X (M_areNumbers1_m S M tl n u t hG hW hM) cb_M_366 rfl rfl M_areNumbers_im M_areNumbers_se rfl ⟨Nat.le_of_ble_eq_true rfl, Nat.le_of_ble_eq_true rfl⟩ (Nat.le_of_ble_eq_true rfl) ⟨Nat.le_of_ble_eq_true rfl, Nat.le_of_ble_eq_true rfl⟩ (M_one_d.d 2 rfl) (fun v h' q => ?_)
  rcases q with ⟨hc, rfl, rfl⟩ | ⟨hc, rfl, rfl⟩
  · obtain ⟨hn, ht1⟩ := pn1_o hc
    refine AW.if_ne X (M_one_d.d 3 rfl) (fun q3 => ?_) (fun q3 => absurd q3 (by decide))
    refine AW.run X M_one_d 5 1 rfl ?_
    refine AW.callV (As := []) X (M_take_m S M tl n u t hW.1 hM (by omega)) cb_M_392 rfl rfl M_take_im M_take_se rfl ⟨Nat.le_of_ble_eq_true rfl, Nat.le_of_ble_eq_true rfl⟩ (Nat.le_of_ble_eq_true rfl) ⟨Nat.le_of_ble_eq_true rfl, Nat.le_of_ble_eq_true rfl⟩ (M_one_d.d 6 rfl) (fun v h' q => ?_)
    obtain ⟨rfl, rfl⟩ := q
    refine AW.run X M_one_d 7 3 rfl ?_
    refine AW.icmp_ne X (M_one_d.d 10 rfl) (fun q10 => ?_) (fun q10 => absurd q10 (by decide))
    refine AW.run X M_one_d 19 1 rfl ?_
    refine AW.tableIn X (M_one_d.d 20 rfl) (by decide) (by decide) (off := 145) (by decide) ?_
    refine AW.run X M_one_d 70 2 rfl ?_
    refine AW.callV (As := [.long (lZ (u (n - 1)))]) X (M_putNumber_m S (y_i M 9 (nI (n - 1))) tl (n - 1) u t (u (n - 1)) (gd_i (by decide) hG) (by have := hW.1; omega) hM.tk (zN_L (hW.2 (n - 1) (by omega)).1)) cb_M_382 rfl rfl M_putNumber_im M_putNumber_se rfl ⟨Nat.le_of_ble_eq_true rfl, Nat.le_of_ble_eq_true rfl⟩ (Nat.le_of_ble_eq_true rfl) ⟨Nat.le_of_ble_eq_true rfl, Nat.le_of_ble_eq_true rfl⟩ (M_one_d.d 72 rfl) (fun v h' q => ?_)
    obtain ⟨rfl, q⟩ := q
    refine AW.goto X (M_one_d.d 73 rfl) ?_
    exact AW.vret X (M_one_d.d 78 rfl) (Nat.le_of_ble_eq_true rfl) (Nat.le_of_ble_eq_true rfl) ⟨rfl, mp_tr (MFr.d _ _) (by rw [pS_12]; unfold p1; rw [if_neg (by omega), if_neg (by rw [ht1]; decide), if_neg Bool.false_ne_true]; exact pg_sh (by omega) hn hW.1) q⟩
  · refine AW.if_ne X (M_one_d.d 3 rfl) (fun q3 => absurd q3 (by decide)) (fun q3 => ?_)
    exact AW.vret X (M_one_d.d 4 rfl) (Nat.le_of_ble_eq_true rfl) (Nat.le_of_ble_eq_true rfl) ⟨rfl, mp_bad (by rw [pS_12]; unfold p1; exact pn1_p hc) hc⟩

set_option maxHeartbeats 4000000 in
set_option maxRecDepth 100000 in
theorem M_one13_m {l : Launch} {G : ax_G} (S : x_S) (M : x_M) (tl : List va_E) (n : Nat) (u : Nat → Int) (t : Nat → Bool) (hG : gd M) (hW : WS n u t) (hM : MS M n u t) (num : Int) :
    AM l VV G M_one_y M_one_c 4 none 5 0 0 [.ref 153, .int 8] (x_hM S M tl) (fun v h' => v = none ∧ mp S tl M (pS 13 num n u t) h') := by
  refine AM.of (pl := pl_M) (by decide) v_good fl_M_ok kl_M_ok nofun (Nat.le_of_ble_eq_true rfl) ?_
  intro p e s m args below meth c X
  refine AW.run X M_one_d 0 2 rfl ?_
  refine AW.callV (As := [.int (nI 1)]) X (M_areNumbers1_m S M tl n u t hG hW hM) cb_M_366 rfl rfl M_areNumbers_im M_areNumbers_se rfl ⟨Nat.le_of_ble_eq_true rfl, Nat.le_of_ble_eq_true rfl⟩ (Nat.le_of_ble_eq_true rfl) ⟨Nat.le_of_ble_eq_true rfl, Nat.le_of_ble_eq_true rfl⟩ (M_one_d.d 2 rfl) (fun v h' q => ?_)
  rcases q with ⟨hc, rfl, rfl⟩ | ⟨hc, rfl, rfl⟩
  · obtain ⟨hn, ht1⟩ := pn1_o hc
    refine AW.if_ne X (M_one_d.d 3 rfl) (fun q3 => ?_) (fun q3 => absurd q3 (by decide))
    refine AW.run X M_one_d 5 1 rfl ?_
    refine AW.callV (As := []) X (M_take_m S M tl n u t hW.1 hM (by omega)) cb_M_392 rfl rfl M_take_im M_take_se rfl ⟨Nat.le_of_ble_eq_true rfl, Nat.le_of_ble_eq_true rfl⟩ (Nat.le_of_ble_eq_true rfl) ⟨Nat.le_of_ble_eq_true rfl, Nat.le_of_ble_eq_true rfl⟩ (M_one_d.d 6 rfl) (fun v h' q => ?_)
    obtain ⟨rfl, rfl⟩ := q
    refine AW.run X M_one_d 7 3 rfl ?_
    refine AW.icmp_ne X (M_one_d.d 10 rfl) (fun q10 => absurd q10 (by decide)) (fun q10 => ?_)
    refine AW.run X M_one_d 11 3 rfl ?_
    refine AW.if_ge X (M_one_d.d 14 rfl) (fun q14 => ?_) (fun q14 => ?_)
    · have h0 : 0 ≤ u (n - 1) := (lc_ge (a := u (n - 1)) (b := 0) (zN_L (hW.2 (n - 1) (by omega)).1) ⟨by decide, by decide⟩).mp q14
      refine AW.run X M_one_d 19 1 rfl ?_
      refine AW.tableOut X (M_one_d.d 20 rfl) (by decide) ?_
      refine AW.run X M_one_d 74 2 rfl ?_
      refine AW.callS (As := [.long (lZ (u (n - 1)))]) X (M_rootOf_m (u (n - 1)) (hW.2 (n - 1) (by omega)).1 h0) cb_M_420 M_rootOf_st rfl ⟨Nat.le_of_ble_eq_true rfl, Nat.le_of_ble_eq_true rfl⟩ (Nat.le_of_ble_eq_true rfl) ⟨Nat.le_of_ble_eq_true rfl, Nat.le_of_ble_eq_true rfl⟩ (M_one_d.d 76 rfl) (fun v h' q => ?_)
      obtain ⟨rfl, rfl⟩ := q
      refine AW.callV (As := [.long (lZ (zroot (u (n - 1))))]) X (M_putNumber_m S (y_i M 9 (nI (n - 1))) tl (n - 1) u t (zroot (u (n - 1))) (gd_i (by decide) hG) (by have := hW.1; omega) hM.tk (zL_root (hW.2 (n - 1) (by omega)).1 h0)) cb_M_382 rfl rfl M_putNumber_im M_putNumber_se rfl ⟨Nat.le_of_ble_eq_true rfl, Nat.le_of_ble_eq_true rfl⟩ (Nat.le_of_ble_eq_true rfl) ⟨Nat.le_of_ble_eq_true rfl, Nat.le_of_ble_eq_true rfl⟩ (M_one_d.d 77 rfl) (fun v h' q => ?_)
      obtain ⟨rfl, q⟩ := q
      exact AW.vret X (M_one_d.d 78 rfl) (Nat.le_of_ble_eq_true rfl) (Nat.le_of_ble_eq_true rfl) ⟨rfl, mp_tr (MFr.d _ _) (by rw [pS_13]; unfold p1; rw [if_neg (by omega), if_neg (by rw [ht1]; decide), if_neg (by rw [decide_eq_true_eq]; omega)]; exact pg_sh (by omega) hn hW.1) q⟩
    · refine AW.run X M_one_d 15 2 rfl ?_
      refine AW.callV (As := [.int (iZ 12)]) X (M_failG_m S (y_i M 9 (nI (n - 1))) tl 12 (gd_i (by decide) hG)) cb_M_356 rfl rfl M_fail_im M_fail_se rfl ⟨Nat.le_of_ble_eq_true rfl, Nat.le_of_ble_eq_true rfl⟩ (Nat.le_of_ble_eq_true rfl) ⟨Nat.le_of_ble_eq_true rfl, Nat.le_of_ble_eq_true rfl⟩ (M_one_d.d 17 rfl) (fun v h' q => ?_)
      obtain ⟨rfl, rfl⟩ := q
      exact AW.vret X (M_one_d.d 18 rfl) (Nat.le_of_ble_eq_true rfl) (Nat.le_of_ble_eq_true rfl) ⟨rfl, mp_bad' (MFr.d _ _) (by rw [pS_13]; unfold p1; rw [if_neg (by omega), if_neg (by rw [ht1]; decide), if_pos (by rw [decide_eq_true_eq]; exact Int.not_le.mp (mt (lc_ge (a := u (n - 1)) (b := 0) (zN_L (hW.2 (n - 1) (by omega)).1) ⟨by decide, by decide⟩).mpr q14))]; rfl) (by decide)⟩
  · refine AW.if_ne X (M_one_d.d 3 rfl) (fun q3 => absurd q3 (by decide)) (fun q3 => ?_)
    exact AW.vret X (M_one_d.d 4 rfl) (Nat.le_of_ble_eq_true rfl) (Nat.le_of_ble_eq_true rfl) ⟨rfl, mp_bad (by rw [pS_13]; unfold p1; exact pn1_p hc) hc⟩

