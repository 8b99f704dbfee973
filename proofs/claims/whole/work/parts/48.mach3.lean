theorem iZ_dw {a : Int} (ha : zN a) (h : a % 65536 = 0) : iZ a / (65536 : Int32) = iZ (a / 65536) := by rw [iZ_div ha, tdiv_w h]
theorem pwh2_v (n : Nat) (u : Nat → Int) (t : Nat → Bool) : pwh2 n u t = 10 ∨ pwh2 n u t = 11 ∨ pwh2 n u t = -1 := by
  unfold pwh2
  split
  · exact Or.inl rfl
  · split
    · exact Or.inr (Or.inl rfl)
    · exact Or.inr (Or.inr rfl)
theorem pwh2_c (n : Nat) (u : Nat → Int) (t : Nat → Bool) : iZ (pwh2 n u t) = Int32.ofInt (-1) ↔ pwh2 n u t = -1 := by
  rcases pwh2_v n u t with h | h | h <;> rw [h] <;> decide
theorem pwh2_w {n : Nat} {u : Nat → Int} {t : Nat → Bool} (h : pwh2 n u t = -1) : u (n - 2) % 65536 = 0 ∧ u (n - 1) % 65536 = 0 := by
  unfold pwh2 at h
  split at h
  · cases h
  · split at h
    · cases h
    · omega
theorem pwh1_v (n : Nat) (u : Nat → Int) (t : Nat → Bool) : pwh1 n u t = 10 ∨ pwh1 n u t = 11 ∨ pwh1 n u t = -1 := by
  unfold pwh1
  split
  · exact Or.inl rfl
  · split
    · exact Or.inr (Or.inl rfl)
    · exact Or.inr (Or.inr rfl)
theorem pwh1_c (n : Nat) (u : Nat → Int) (t : Nat → Bool) : iZ (pwh1 n u t) = Int32.ofInt (-1) ↔ pwh1 n u t = -1 := by
  rcases pwh1_v n u t with h | h | h <;> rw [h] <;> decide
theorem pwh1_w {n : Nat} {u : Nat → Int} {t : Nat → Bool} (h : pwh1 n u t = -1) : u (n - 1) % 65536 = 0 := by
  unfold pwh1 at h
  split at h
  · cases h
  · split at h
    · cases h
    · omega
theorem zI_tdiv {a b : Int} (ha : -16384 ≤ a ∧ a ≤ 16384) (hb : -16384 ≤ b ∧ b ≤ 16384) : zI (a.tdiv b) := by
  have := Int.natAbs_tdiv_le_natAbs a b
  exact ⟨by omega, by omega⟩
theorem zI_tmod {a b : Int} (ha : -16384 ≤ a ∧ a ≤ 16384) (hb : -16384 ≤ b ∧ b ≤ 16384) : zI (a.tmod b) := by
  have h := Int.natAbs_tmod a b
  have := Nat.mod_le a.natAbs b.natAbs
  exact ⟨by omega, by omega⟩
theorem iZ_tq {a b : Int} (ha : -16384 ≤ a ∧ a ≤ 16384) (hb : -16384 ≤ b ∧ b ≤ 16384) : iZ a / iZ b = iZ (a.tdiv b) ∧ iZ a - iZ a / iZ b * iZ b = iZ (a.tmod b) := by
  have hq := zI_tdiv ha hb
  have e : iZ a / iZ b = iZ (a.tdiv b) := by
    apply Int32.toInt_inj.mp
    rw [Int32.toInt_div, iZ_t ⟨by omega, by omega⟩, iZ_t ⟨by omega, by omega⟩, iZ_t hq, Int.bmod_def]
    have := hq.1
    have := hq.2
    omega
  refine ⟨e, ?_⟩
  rw [e, iZ_mul, iZ_sub]
  congr 1
  have := Int.mul_tdiv_add_tmod a b
  rw [Int.mul_comm] at this
  omega
theorem abs_31 {b : Int} (hb : -16384 ≤ b ∧ b ≤ 16384) : (if 0 ≤ iZ b then iZ b else -iZ b) ≤ (31 : Int32) ↔ -31 ≤ b ∧ b ≤ 31 := by
  rw [show (0 : Int32) = iZ 0 from rfl, show (31 : Int32) = iZ 31 from rfl]
  by_cases z : 0 ≤ b
  · rw [if_pos ((iZ_le ⟨by decide, by decide⟩ ⟨by omega, by omega⟩).mpr z), iZ_le ⟨by omega, by omega⟩ ⟨by decide, by decide⟩]
    omega
  · rw [if_neg (fun q => z ((iZ_le ⟨by decide, by decide⟩ ⟨by omega, by omega⟩).mp q)), iZ_neg, iZ_le ⟨by omega, by omega⟩ ⟨by decide, by decide⟩]
    omega
theorem zxor {b : Int} (hb : -16384 ≤ b ∧ b ≤ 16384) : iZ b ^^^ Int32.ofInt (-1) = iZ (-1 - b) := by
  have e : iZ b ^^^ Int32.ofInt (-1) = ~~~ iZ b := by
    apply Int32.toBitVec_inj.mp
    rw [Int32.toBitVec_xor, Int32.toBitVec_not]
    show (iZ b).toBitVec ^^^ BitVec.allOnes 32 = _
    rw [BitVec.xor_allOnes]
  rw [e]
  apply Int32.toInt_inj.mp
  rw [Int32.toInt_not, iZ_t ⟨by omega, by omega⟩, iZ_t ⟨by omega, by omega⟩, Int.bmod_def]
  omega
set_option maxHeartbeats 4000000 in
set_option maxRecDepth 100000 in
theorem K_shifted_m {l : Launch} {G : ax_G} {h : List va_E} (a b : Int) (hb : -31 ≤ b ∧ b ≤ 31) :
    AM l VV G K_shifted_y K_shifted_c 2 (some .int) 0 0 0 [.int (iZ a), .int (iZ b)] (h) (fun v h' => v = some (.int (zsh a b)) ∧ h' = h) := by
  refine AM.of (pl := pl_K) (by decide) v_good fl_K_ok kl_K_ok nofun (Nat.le_of_ble_eq_true rfl) ?_
  intro p e s m args below meth c X
  refine AW.run X K_shifted_d 0 1 rfl ?_
  refine AW.if_ge X (K_shifted_d.d 1 rfl) (fun q1 => ?_) (fun q1 => ?_)
  · refine AW.run X K_shifted_d 7 3 rfl ?_
    exact AW.iret X (K_shifted_d.d 10 rfl) (Nat.le_of_ble_eq_true rfl) (Nat.le_of_ble_eq_true rfl) ⟨by unfold zsh; rw [if_neg (by have := (iZ_le (a := 0) (b := b) ⟨by decide, by decide⟩ ⟨by omega, by omega⟩).mp q1; omega)], rfl⟩
  · refine AW.run X K_shifted_d 2 4 rfl ?_
    refine AW.goto X (K_shifted_d.d 6 rfl) ?_
    exact AW.iret X (K_shifted_d.d 10 rfl) (Nat.le_of_ble_eq_true rfl) (Nat.le_of_ble_eq_true rfl) ⟨by unfold zsh; rw [if_pos (by have := mt (iZ_le (a := 0) (b := b) ⟨by decide, by decide⟩ ⟨by omega, by omega⟩).mpr q1; omega), iZ_neg], rfl⟩

set_option maxHeartbeats 4000000 in
set_option maxRecDepth 100000 in
theorem K_twoWholes18_m {l : Launch} {G : ax_G} (S : x_S) (tl : List va_E) (n : Nat) (u : Nat → Int) (t : Nat → Bool) (hW : WS n u t) (hK : KS S n u t) (hn : 2 ≤ n) (num : Int) :
    AM l VV G K_twoWholes_y K_twoWholes_c 5 (some .int) 3 0 0 [.ref 150, .ref 18] (x_hC S tl) (fun v h' => kp S tl (pS 18 num n u t) v h') := by
  refine AM.of (pl := pl_K) (by decide) v_good fl_K_ok kl_K_ok nofun (Nat.le_of_ble_eq_true rfl) ?_
  intro p e s m args below meth c X
  refine AW.run X K_twoWholes_d 0 2 rfl ?_
  refine AW.callV (As := [.int (nI 2)]) X (K_faultOfWholes2_m S tl n u t hW hK hn) cb_K_138 rfl rfl K_faultOfWholes_im K_faultOfWholes_se rfl ⟨Nat.le_of_ble_eq_true rfl, Nat.le_of_ble_eq_true rfl⟩ (Nat.le_of_ble_eq_true rfl) ⟨Nat.le_of_ble_eq_true rfl, Nat.le_of_ble_eq_true rfl⟩ (K_twoWholes_d.d 2 rfl) (fun v h' q => ?_)
  obtain ⟨rfl, rfl⟩ := q
  refine AW.run X K_twoWholes_d 3 3 rfl ?_
  refine AW.icmp_eq X (K_twoWholes_d.d 6 rfl) (fun q6 => ?_) (fun q6 => ?_)
  · have hp : pwh2 n u t = -1 := (pwh2_c n u t).mp q6
    obtain ⟨hw2, hw1⟩ := pwh2_w hp
    refine AW.run X K_twoWholes_d 9 6 rfl ?_
    refine AW.cl12 (j := n - 2) X (hK.i (k := 2) (by omega)) (by have := hW.1; omega) (K_twoWholes_d.d 15 rfl) ?_
    rw [(hK.2 (n - 2) (by omega)).1]
    refine AW.run X K_twoWholes_d 16 1 rfl ?_
    refine AW.idiv X (K_twoWholes_d.d 17 rfl) (by decide) ?_
    rw [iZ_dw (hW.2 (n - 2) (by omega)).1 hw2]
    refine AW.run X K_twoWholes_d 18 7 rfl ?_
    refine AW.cl12 (j := n - 1) X (hK.i (k := 1) (by omega)) (by have := hW.1; omega) (K_twoWholes_d.d 25 rfl) ?_
    rw [(hK.2 (n - 1) (by omega)).1]
    refine AW.run X K_twoWholes_d 26 1 rfl ?_
    refine AW.idiv X (K_twoWholes_d.d 27 rfl) (by decide) ?_
    rw [iZ_dw (hW.2 (n - 1) (by omega)).1 hw1]
    refine AW.run X K_twoWholes_d 28 2 rfl ?_
    refine AW.gets X gs_K_142.1 gs_K_142.2 (K_twoWholes_d.d 30 rfl) ?_
    refine AW.acmp_ne X (some 18) (some 20) (Or.inl (by decide)) (Or.inl (by decide)) (K_twoWholes_d.d 31 rfl) (fun q => ?_) (fun q => absurd q (by decide))
    refine AW.run X K_twoWholes_d 45 1 rfl ?_
    refine AW.if_ne X (K_twoWholes_d.d 46 rfl) (fun q46 => ?_) (fun q46 => ?_)
    · refine AW.run X K_twoWholes_d 49 3 rfl ?_
      refine AW.gets X gs_K_151.1 gs_K_151.2 (K_twoWholes_d.d 52 rfl) ?_
      refine AW.acmp_ne X (some 18) (some 18) (Or.inl (by decide)) (Or.inl (by decide)) (K_twoWholes_d.d 53 rfl) (fun q => absurd rfl q) (fun q => ?_)
      refine AW.run X K_twoWholes_d 54 2 rfl ?_
      refine AW.idiv X (K_twoWholes_d.d 56 rfl) q46 ?_
      rw [(iZ_tq (zN_q (hW.2 (n - 2) (by omega)).1) (zN_q (hW.2 (n - 1) (by omega)).1)).1]
      refine AW.goto X (K_twoWholes_d.d 57 rfl) ?_
      refine AW.callV (As := [.int (nI 2), .int (iZ (Int.tdiv (u (n - 2) / 65536) (u (n - 1) / 65536)))]) X (K_giveWhole_m S tl n 2 u t hW hK (iZ (Int.tdiv (u (n - 2) / 65536) (u (n - 1) / 65536))) (by omega)) cb_K_148 rfl rfl K_giveWhole_im K_giveWhole_se rfl ⟨Nat.le_of_ble_eq_true rfl, Nat.le_of_ble_eq_true rfl⟩ (Nat.le_of_ble_eq_true rfl) ⟨Nat.le_of_ble_eq_true rfl, Nat.le_of_ble_eq_true rfl⟩ (K_twoWholes_d.d 61 rfl) (fun v h' q => ?_)
      obtain ⟨rfl, q⟩ := q
      exact AW.iret X (K_twoWholes_d.d 62 rfl) (Nat.le_of_ble_eq_true rfl) (Nat.le_of_ble_eq_true rfl) (kp_eq (by rw [pS_18]; unfold pidm; rw [if_neg (by omega), if_neg (fun z => z hp), if_neg (fun z => q46 (by rw [z]; rfl)), iZ_t (zI_tdiv (zN_q (hW.2 (n - 2) (by omega)).1) (zN_q (hW.2 (n - 1) (by omega)).1))]) ⟨rfl, q⟩)
    · refine AW.run X K_twoWholes_d 47 1 rfl ?_
      exact AW.iret X (K_twoWholes_d.d 48 rfl) (Nat.le_of_ble_eq_true rfl) (Nat.le_of_ble_eq_true rfl) (kp_e (c := 13) (by rw [pS_18]; unfold pidm; rw [if_neg (by omega), if_neg (fun z => z hp), if_pos ((iZ_eq ⟨by have := (zN_q (hW.2 (n - 1) (by omega)).1); omega, by have := (zN_q (hW.2 (n - 1) (by omega)).1); omega⟩ ⟨by decide, by decide⟩).mp q46)]; rfl) (by decide) rfl)
  · refine AW.run X K_twoWholes_d 7 1 rfl ?_
    exact AW.iret X (K_twoWholes_d.d 8 rfl) (Nat.le_of_ble_eq_true rfl) (Nat.le_of_ble_eq_true rfl) (kp_e (c := pwh2 n u t) (by rw [pS_18]; unfold pidm; rw [if_neg (by omega), if_pos (fun z => q6 ((pwh2_c n u t).mpr z))]; rfl) (fun z => q6 ((pwh2_c n u t).mpr z)) rfl)

set_option maxHeartbeats 4000000 in
set_option maxRecDepth 100000 in
theorem K_twoWholes19_m {l : Launch} {G : ax_G} (S : x_S) (tl : List va_E) (n : Nat) (u : Nat → Int) (t : Nat → Bool) (hW : WS n u t) (hK : KS S n u t) (hn : 2 ≤ n) (num : Int) :
    AM l VV G K_twoWholes_y K_twoWholes_c 5 (some .int) 3 0 0 [.ref 150, .ref 19] (x_hC S tl) (fun v h' => kp S tl (pS 19 num n u t) v h') := by
  refine AM.of (pl := pl_K) (by decide) v_good fl_K_ok kl_K_ok nofun (Nat.le_of_ble_eq_true rfl) ?_
  intro p e s m args below meth c X
  refine AW.run X K_twoWholes_d 0 2 rfl ?_
  refine AW.callV (As := [.int (nI 2)]) X (K_faultOfWholes2_m S tl n u t hW hK hn) cb_K_138 rfl rfl K_faultOfWholes_im K_faultOfWholes_se rfl ⟨Nat.le_of_ble_eq_true rfl, Nat.le_of_ble_eq_true rfl⟩ (Nat.le_of_ble_eq_true rfl) ⟨Nat.le_of_ble_eq_true rfl, Nat.le_of_ble_eq_true rfl⟩ (K_twoWholes_d.d 2 rfl) (fun v h' q => ?_)
  obtain ⟨rfl, rfl⟩ := q
  refine AW.run X K_twoWholes_d 3 3 rfl ?_
  refine AW.icmp_eq X (K_twoWholes_d.d 6 rfl) (fun q6 => ?_) (fun q6 => ?_)
  · have hp : pwh2 n u t = -1 := (pwh2_c n u t).mp q6
    obtain ⟨hw2, hw1⟩ := pwh2_w hp
    refine AW.run X K_twoWholes_d 9 6 rfl ?_
    refine AW.cl12 (j := n - 2) X (hK.i (k := 2) (by omega)) (by have := hW.1; omega) (K_twoWholes_d.d 15 rfl) ?_
    rw [(hK.2 (n - 2) (by omega)).1]
    refine AW.run X K_twoWholes_d 16 1 rfl ?_
    refine AW.idiv X (K_twoWholes_d.d 17 rfl) (by decide) ?_
    rw [iZ_dw (hW.2 (n - 2) (by omega)).1 hw2]
    refine AW.run X K_twoWholes_d 18 7 rfl ?_
    refine AW.cl12 (j := n - 1) X (hK.i (k := 1) (by omega)) (by have := hW.1; omega) (K_twoWholes_d.d 25 rfl) ?_
    rw [(hK.2 (n - 1) (by omega)).1]
    refine AW.run X K_twoWholes_d 26 1 rfl ?_
    refine AW.idiv X (K_twoWholes_d.d 27 rfl) (by decide) ?_
    rw [iZ_dw (hW.2 (n - 1) (by omega)).1 hw1]
    refine AW.run X K_twoWholes_d 28 2 rfl ?_
    refine AW.gets X gs_K_142.1 gs_K_142.2 (K_twoWholes_d.d 30 rfl) ?_
    refine AW.acmp_ne X (some 19) (some 20) (Or.inl (by decide)) (Or.inl (by decide)) (K_twoWholes_d.d 31 rfl) (fun q => ?_) (fun q => absurd q (by decide))
    refine AW.run X K_twoWholes_d 45 1 rfl ?_
    refine AW.if_ne X (K_twoWholes_d.d 46 rfl) (fun q46 => ?_) (fun q46 => ?_)
    · refine AW.run X K_twoWholes_d 49 3 rfl ?_
      refine AW.gets X gs_K_151.1 gs_K_151.2 (K_twoWholes_d.d 52 rfl) ?_
      refine AW.acmp_ne X (some 19) (some 18) (Or.inl (by decide)) (Or.inl (by decide)) (K_twoWholes_d.d 53 rfl) (fun q => ?_) (fun q => absurd q (by decide))
      refine AW.run X K_twoWholes_d 58 2 rfl ?_
      refine AW.irem X (K_twoWholes_d.d 60 rfl) q46 ?_
      rw [(iZ_tq (zN_q (hW.2 (n - 2) (by omega)).1) (zN_q (hW.2 (n - 1) (by omega)).1)).2]
      refine AW.callV (As := [.int (nI 2), .int (iZ (Int.tmod (u (n - 2) / 65536) (u (n - 1) / 65536)))]) X (K_giveWhole_m S tl n 2 u t hW hK (iZ (Int.tmod (u (n - 2) / 65536) (u (n - 1) / 65536))) (by omega)) cb_K_148 rfl rfl K_giveWhole_im K_giveWhole_se rfl ⟨Nat.le_of_ble_eq_true rfl, Nat.le_of_ble_eq_true rfl⟩ (Nat.le_of_ble_eq_true rfl) ⟨Nat.le_of_ble_eq_true rfl, Nat.le_of_ble_eq_true rfl⟩ (K_twoWholes_d.d 61 rfl) (fun v h' q => ?_)
      obtain ⟨rfl, q⟩ := q
      exact AW.iret X (K_twoWholes_d.d 62 rfl) (Nat.le_of_ble_eq_true rfl) (Nat.le_of_ble_eq_true rfl) (kp_eq (by rw [pS_19]; unfold pidm; rw [if_neg (by omega), if_neg (fun z => z hp), if_neg (fun z => q46 (by rw [z]; rfl)), iZ_t (zI_tmod (zN_q (hW.2 (n - 2) (by omega)).1) (zN_q (hW.2 (n - 1) (by omega)).1))]) ⟨rfl, q⟩)
    · refine AW.run X K_twoWholes_d 47 1 rfl ?_
      exact AW.iret X (K_twoWholes_d.d 48 rfl) (Nat.le_of_ble_eq_true rfl) (Nat.le_of_ble_eq_true rfl) (kp_e (c := 13) (by rw [pS_19]; unfold pidm; rw [if_neg (by omega), if_neg (fun z => z hp), if_pos ((iZ_eq ⟨by have := (zN_q (hW.2 (n - 1) (by omega)).1); omega, by have := (zN_q (hW.2 (n - 1) (by omega)).1); omega⟩ ⟨by decide, by decide⟩).mp q46)]; rfl) (by decide) rfl)
  · refine AW.run X K_twoWholes_d 7 1 rfl ?_
    exact AW.iret X (K_twoWholes_d.d 8 rfl) (Nat.le_of_ble_eq_true rfl) (Nat.le_of_ble_eq_true rfl) (kp_e (c := pwh2 n u t) (by rw [pS_19]; unfold pidm; rw [if_neg (by omega), if_pos (fun z => q6 ((pwh2_c n u t).mpr z))]; rfl) (fun z => q6 ((pwh2_c n u t).mpr z)) rfl)

set_option maxHeartbeats 4000000 in
set_option maxRecDepth 100000 in
theorem K_twoWholes20_m {l : Launch} {G : ax_G} (S : x_S) (tl : List va_E) (n : Nat) (u : Nat → Int) (t : Nat → Bool) (hW : WS n u t) (hK : KS S n u t) (hn : 2 ≤ n) (num : Int) :
    AM l VV G K_twoWholes_y K_twoWholes_c 5 (some .int) 3 0 0 [.ref 150, .ref 20] (x_hC S tl) (fun v h' => kp S tl (pS 20 num n u t) v h') := by
  refine AM.of (pl := pl_K) (by decide) v_good fl_K_ok kl_K_ok nofun (Nat.le_of_ble_eq_true rfl) ?_
  intro p e s m args below meth c X
  refine AW.run X K_twoWholes_d 0 2 rfl ?_
  refine AW.callV (As := [.int (nI 2)]) X (K_faultOfWholes2_m S tl n u t hW hK hn) cb_K_138 rfl rfl K_faultOfWholes_im K_faultOfWholes_se rfl ⟨Nat.le_of_ble_eq_true rfl, Nat.le_of_ble_eq_true rfl⟩ (Nat.le_of_ble_eq_true rfl) ⟨Nat.le_of_ble_eq_true rfl, Nat.le_of_ble_eq_true rfl⟩ (K_twoWholes_d.d 2 rfl) (fun v h' q => ?_)
  obtain ⟨rfl, rfl⟩ := q
  refine AW.run X K_twoWholes_d 3 3 rfl ?_
  refine AW.icmp_eq X (K_twoWholes_d.d 6 rfl) (fun q6 => ?_) (fun q6 => ?_)
  · have hp : pwh2 n u t = -1 := (pwh2_c n u t).mp q6
    obtain ⟨hw2, hw1⟩ := pwh2_w hp
    refine AW.run X K_twoWholes_d 9 6 rfl ?_
    refine AW.cl12 (j := n - 2) X (hK.i (k := 2) (by omega)) (by have := hW.1; omega) (K_twoWholes_d.d 15 rfl) ?_
    rw [(hK.2 (n - 2) (by omega)).1]
    refine AW.run X K_twoWholes_d 16 1 rfl ?_
    refine AW.idiv X (K_twoWholes_d.d 17 rfl) (by decide) ?_
    rw [iZ_dw (hW.2 (n - 2) (by omega)).1 hw2]
    refine AW.run X K_twoWholes_d 18 7 rfl ?_
    refine AW.cl12 (j := n - 1) X (hK.i (k := 1) (by omega)) (by have := hW.1; omega) (K_twoWholes_d.d 25 rfl) ?_
    rw [(hK.2 (n - 1) (by omega)).1]
    refine AW.run X K_twoWholes_d 26 1 rfl ?_
    refine AW.idiv X (K_twoWholes_d.d 27 rfl) (by decide) ?_
    rw [iZ_dw (hW.2 (n - 1) (by omega)).1 hw1]
    refine AW.run X K_twoWholes_d 28 2 rfl ?_
    refine AW.gets X gs_K_142.1 gs_K_142.2 (K_twoWholes_d.d 30 rfl) ?_
    refine AW.acmp_ne X (some 20) (some 20) (Or.inl (by decide)) (Or.inl (by decide)) (K_twoWholes_d.d 31 rfl) (fun q => absurd rfl q) (fun q => ?_)
    refine AW.run X K_twoWholes_d 32 1 rfl ?_
    refine AW.callS (As := [.int (iZ (u (n - 1) / 65536))]) X (JMath_abs_m (iZ (u (n - 1) / 65536))) cb_K_108 JMath_abs_st rfl ⟨Nat.le_of_ble_eq_true rfl, Nat.le_of_ble_eq_true rfl⟩ (Nat.le_of_ble_eq_true rfl) ⟨Nat.le_of_ble_eq_true rfl, Nat.le_of_ble_eq_true rfl⟩ (K_twoWholes_d.d 33 rfl) (fun v h' q => ?_)
    obtain ⟨rfl, rfl⟩ := q
    refine AW.run X K_twoWholes_d 34 1 rfl ?_
    refine AW.icmp_le X (K_twoWholes_d.d 35 rfl) (fun q35 => ?_) (fun q35 => ?_)
    · have hb31 := (abs_31 (zN_q (hW.2 (n - 1) (by omega)).1)).mp q35
      refine AW.run X K_twoWholes_d 38 4 rfl ?_
      refine AW.callS (As := [.int (iZ (u (n - 2) / 65536)), .int (iZ (u (n - 1) / 65536))]) X (K_shifted_m (u (n - 2) / 65536) (u (n - 1) / 65536) hb31) cb_K_145 K_shifted_st rfl ⟨Nat.le_of_ble_eq_true rfl, Nat.le_of_ble_eq_true rfl⟩ (Nat.le_of_ble_eq_true rfl) ⟨Nat.le_of_ble_eq_true rfl, Nat.le_of_ble_eq_true rfl⟩ (K_twoWholes_d.d 42 rfl) (fun v h' q => ?_)
      obtain ⟨rfl, rfl⟩ := q
      refine AW.callV (As := [.int (nI 2), .int (zsh (u (n - 2) / 65536) (u (n - 1) / 65536))]) X (K_giveWhole_m S tl n 2 u t hW hK (zsh (u (n - 2) / 65536) (u (n - 1) / 65536)) (by omega)) cb_K_148 rfl rfl K_giveWhole_im K_giveWhole_se rfl ⟨Nat.le_of_ble_eq_true rfl, Nat.le_of_ble_eq_true rfl⟩ (Nat.le_of_ble_eq_true rfl) ⟨Nat.le_of_ble_eq_true rfl, Nat.le_of_ble_eq_true rfl⟩ (K_twoWholes_d.d 43 rfl) (fun v h' q => ?_)
      obtain ⟨rfl, q⟩ := q
      exact AW.iret X (K_twoWholes_d.d 44 rfl) (Nat.le_of_ble_eq_true rfl) (Nat.le_of_ble_eq_true rfl) (kp_eq (by rw [pS_20]; unfold pshift; rw [if_neg (by omega), if_neg (fun z => z hp), if_neg (by omega)]) ⟨rfl, q⟩)
    · refine AW.run X K_twoWholes_d 36 1 rfl ?_
      refine AW.goto X (K_twoWholes_d.d 37 rfl) ?_
      exact AW.iret X (K_twoWholes_d.d 44 rfl) (Nat.le_of_ble_eq_true rfl) (Nat.le_of_ble_eq_true rfl) (kp_e (c := 12) (by rw [pS_20]; unfold pshift; rw [if_neg (by omega), if_neg (fun z => z hp), if_pos (by have := mt (abs_31 (zN_q (hW.2 (n - 1) (by omega)).1)).mpr q35; omega)]; rfl) (by decide) rfl)
  · refine AW.run X K_twoWholes_d 7 1 rfl ?_
    exact AW.iret X (K_twoWholes_d.d 8 rfl) (Nat.le_of_ble_eq_true rfl) (Nat.le_of_ble_eq_true rfl) (kp_e (c := pwh2 n u t) (by rw [pS_20]; unfold pshift; rw [if_neg (by omega), if_pos (fun z => q6 ((pwh2_c n u t).mpr z))]; rfl) (fun z => q6 ((pwh2_c n u t).mpr z)) rfl)

set_option maxHeartbeats 4000000 in
set_option maxRecDepth 100000 in
theorem K_compared21_m {l : Launch} {G : ax_G} (S : x_S) (tl : List va_E) (a b : Int) (ha : zI a) (hb : zI b) :
    AM l VV G K_compared_y K_compared_c 3 (some .boolean) 1 0 0 [.ref 21, .int (iZ a), .int (iZ b)] (x_hC S tl) (fun v h' => v = some (.int (bI (decide (a = b)))) ∧ h' = x_hC S tl) := by
  refine AM.of (pl := pl_K) (by decide) v_good fl_K_ok kl_K_ok nofun (Nat.le_of_ble_eq_true rfl) ?_
  intro p e s m args below meth c X
  refine AW.gets X gs_K_100.1 gs_K_100.2 (K_compared_d.d 0 rfl) ?_
  refine AW.run X K_compared_d 1 1 rfl ?_
  refine AW.callU (rc := ("NumberFunctions$Word", Cl_O, 4)) (As := []) X (JEnum_ordinal_m 21 (by decide) (x_w S tl)) cu_K_105_O rfl rfl rfl ⟨Nat.le_of_ble_eq_true rfl, Nat.le_of_ble_eq_true rfl⟩ (Nat.le_of_ble_eq_true rfl) ⟨Nat.le_of_ble_eq_true rfl, Nat.le_of_ble_eq_true rfl⟩ (K_compared_d.d 2 rfl) (fun v h' q => ?_)
  obtain ⟨rfl, rfl⟩ := q
  refine AW.tiald (j := 21) X (List.mem_of_getElem? (i := 1) rfl) rfl (by decide) (by decide) (K_compared_d.d 3 rfl) ?_
  refine AW.tableIn X (K_compared_d.d 4 rfl) (by decide) (by decide) (off := 36) (by decide) ?_
  refine AW.run X K_compared_d 5 2 rfl ?_
  refine AW.icmp_ne X (K_compared_d.d 7 rfl) (fun q7 => ?_) (fun q7 => ?_)
  · refine AW.run X K_compared_d 10 1 rfl ?_
    exact AW.zret X n_0 (K_compared_d.d 11 rfl) (Nat.le_of_ble_eq_true rfl) (Nat.le_of_ble_eq_true rfl) ⟨vb_f (fun z => q7 (by rw [z])), rfl⟩
  · refine AW.run X K_compared_d 8 1 rfl ?_
    refine AW.goto X (K_compared_d.d 9 rfl) ?_
    exact AW.zret X n_1 (K_compared_d.d 11 rfl) (Nat.le_of_ble_eq_true rfl) (Nat.le_of_ble_eq_true rfl) ⟨vb_t ((iZ_eq ha hb).mp q7), rfl⟩

set_option maxHeartbeats 4000000 in
set_option maxRecDepth 100000 in
theorem K_compared22_m {l : Launch} {G : ax_G} (S : x_S) (tl : List va_E) (a b : Int) (ha : zI a) (hb : zI b) :
    AM l VV G K_compared_y K_compared_c 3 (some .boolean) 1 0 0 [.ref 22, .int (iZ a), .int (iZ b)] (x_hC S tl) (fun v h' => v = some (.int (bI (decide (a ≠ b)))) ∧ h' = x_hC S tl) := by
  refine AM.of (pl := pl_K) (by decide) v_good fl_K_ok kl_K_ok nofun (Nat.le_of_ble_eq_true rfl) ?_
  intro p e s m args below meth c X
  refine AW.gets X gs_K_100.1 gs_K_100.2 (K_compared_d.d 0 rfl) ?_
  refine AW.run X K_compared_d 1 1 rfl ?_
  refine AW.callU (rc := ("NumberFunctions$Word", Cl_O, 4)) (As := []) X (JEnum_ordinal_m 22 (by decide) (x_w S tl)) cu_K_105_O rfl rfl rfl ⟨Nat.le_of_ble_eq_true rfl, Nat.le_of_ble_eq_true rfl⟩ (Nat.le_of_ble_eq_true rfl) ⟨Nat.le_of_ble_eq_true rfl, Nat.le_of_ble_eq_true rfl⟩ (K_compared_d.d 2 rfl) (fun v h' q => ?_)
  obtain ⟨rfl, rfl⟩ := q
  refine AW.tiald (j := 22) X (List.mem_of_getElem? (i := 1) rfl) rfl (by decide) (by decide) (K_compared_d.d 3 rfl) ?_
  refine AW.tableIn X (K_compared_d.d 4 rfl) (by decide) (by decide) (off := 47) (by decide) ?_
  refine AW.run X K_compared_d 12 2 rfl ?_
  refine AW.icmp_eq X (K_compared_d.d 14 rfl) (fun q14 => ?_) (fun q14 => ?_)
  · refine AW.run X K_compared_d 17 1 rfl ?_
    exact AW.zret X n_0 (K_compared_d.d 18 rfl) (Nat.le_of_ble_eq_true rfl) (Nat.le_of_ble_eq_true rfl) ⟨vb_f (fun z => z ((iZ_eq ha hb).mp q14)), rfl⟩
  · refine AW.run X K_compared_d 15 1 rfl ?_
    refine AW.goto X (K_compared_d.d 16 rfl) ?_
    exact AW.zret X n_1 (K_compared_d.d 18 rfl) (Nat.le_of_ble_eq_true rfl) (Nat.le_of_ble_eq_true rfl) ⟨vb_t (fun z => q14 (by rw [z])), rfl⟩

set_option maxHeartbeats 4000000 in
set_option maxRecDepth 100000 in
theorem K_compared23_m {l : Launch} {G : ax_G} (S : x_S) (tl : List va_E) (a b : Int) (ha : zI a) (hb : zI b) :
    AM l VV G K_compared_y K_compared_c 3 (some .boolean) 1 0 0 [.ref 23, .int (iZ a), .int (iZ b)] (x_hC S tl) (fun v h' => v = some (.int (bI (decide (b < a)))) ∧ h' = x_hC S tl) := by
  refine AM.of (pl := pl_K) (by decide) v_good fl_K_ok kl_K_ok nofun (Nat.le_of_ble_eq_true rfl) ?_
  intro p e s m args below meth c X
  refine AW.gets X gs_K_100.1 gs_K_100.2 (K_compared_d.d 0 rfl) ?_
  refine AW.run X K_compared_d 1 1 rfl ?_
  refine AW.callU (rc := ("NumberFunctions$Word", Cl_O, 4)) (As := []) X (JEnum_ordinal_m 23 (by decide) (x_w S tl)) cu_K_105_O rfl rfl rfl ⟨Nat.le_of_ble_eq_true rfl, Nat.le_of_ble_eq_true rfl⟩ (Nat.le_of_ble_eq_true rfl) ⟨Nat.le_of_ble_eq_true rfl, Nat.le_of_ble_eq_true rfl⟩ (K_compared_d.d 2 rfl) (fun v h' q => ?_)
  obtain ⟨rfl, rfl⟩ := q
  refine AW.tiald (j := 23) X (List.mem_of_getElem? (i := 1) rfl) rfl (by decide) (by decide) (K_compared_d.d 3 rfl) ?_
  refine AW.tableIn X (K_compared_d.d 4 rfl) (by decide) (by decide) (off := 58) (by decide) ?_
  refine AW.run X K_compared_d 19 2 rfl ?_
  refine AW.icmp_le X (K_compared_d.d 21 rfl) (fun q21 => ?_) (fun q21 => ?_)
  · refine AW.run X K_compared_d 24 1 rfl ?_
    exact AW.zret X n_0 (K_compared_d.d 25 rfl) (Nat.le_of_ble_eq_true rfl) (Nat.le_of_ble_eq_true rfl) ⟨vb_f (fun z => by have := (iZ_le ha hb).mp q21; omega), rfl⟩
  · refine AW.run X K_compared_d 22 1 rfl ?_
    refine AW.goto X (K_compared_d.d 23 rfl) ?_
    exact AW.zret X n_1 (K_compared_d.d 25 rfl) (Nat.le_of_ble_eq_true rfl) (Nat.le_of_ble_eq_true rfl) ⟨vb_t (by have := mt (iZ_le ha hb).mpr q21; omega), rfl⟩

set_option maxHeartbeats 4000000 in
set_option maxRecDepth 100000 in
theorem K_compared24_m {l : Launch} {G : ax_G} (S : x_S) (tl : List va_E) (a b : Int) (ha : zI a) (hb : zI b) :
    AM l VV G K_compared_y K_compared_c 3 (some .boolean) 1 0 0 [.ref 24, .int (iZ a), .int (iZ b)] (x_hC S tl) (fun v h' => v = some (.int (bI (decide (b ≤ a)))) ∧ h' = x_hC S tl) := by
  refine AM.of (pl := pl_K) (by decide) v_good fl_K_ok kl_K_ok nofun (Nat.le_of_ble_eq_true rfl) ?_
  intro p e s m args below meth c X
  refine AW.gets X gs_K_100.1 gs_K_100.2 (K_compared_d.d 0 rfl) ?_
  refine AW.run X K_compared_d 1 1 rfl ?_
  refine AW.callU (rc := ("NumberFunctions$Word", Cl_O, 4)) (As := []) X (JEnum_ordinal_m 24 (by decide) (x_w S tl)) cu_K_105_O rfl rfl rfl ⟨Nat.le_of_ble_eq_true rfl, Nat.le_of_ble_eq_true rfl⟩ (Nat.le_of_ble_eq_true rfl) ⟨Nat.le_of_ble_eq_true rfl, Nat.le_of_ble_eq_true rfl⟩ (K_compared_d.d 2 rfl) (fun v h' q => ?_)
  obtain ⟨rfl, rfl⟩ := q
  refine AW.tiald (j := 24) X (List.mem_of_getElem? (i := 1) rfl) rfl (by decide) (by decide) (K_compared_d.d 3 rfl) ?_
  refine AW.tableIn X (K_compared_d.d 4 rfl) (by decide) (by decide) (off := 69) (by decide) ?_
  refine AW.run X K_compared_d 26 2 rfl ?_
  refine AW.icmp_lt X (K_compared_d.d 28 rfl) (fun q28 => ?_) (fun q28 => ?_)
  · refine AW.run X K_compared_d 31 1 rfl ?_
    exact AW.zret X n_0 (K_compared_d.d 32 rfl) (Nat.le_of_ble_eq_true rfl) (Nat.le_of_ble_eq_true rfl) ⟨vb_f (fun z => by have := (iZ_lt ha hb).mp q28; omega), rfl⟩
  · refine AW.run X K_compared_d 29 1 rfl ?_
    refine AW.goto X (K_compared_d.d 30 rfl) ?_
    exact AW.zret X n_1 (K_compared_d.d 32 rfl) (Nat.le_of_ble_eq_true rfl) (Nat.le_of_ble_eq_true rfl) ⟨vb_t (by have := mt (iZ_lt ha hb).mpr q28; omega), rfl⟩

set_option maxHeartbeats 4000000 in
set_option maxRecDepth 100000 in
theorem K_compared25_m {l : Launch} {G : ax_G} (S : x_S) (tl : List va_E) (a b : Int) (ha : zI a) (hb : zI b) :
    AM l VV G K_compared_y K_compared_c 3 (some .boolean) 1 0 0 [.ref 25, .int (iZ a), .int (iZ b)] (x_hC S tl) (fun v h' => v = some (.int (bI (decide (a < b)))) ∧ h' = x_hC S tl) := by
  refine AM.of (pl := pl_K) (by decide) v_good fl_K_ok kl_K_ok nofun (Nat.le_of_ble_eq_true rfl) ?_
  intro p e s m args below meth c X
  refine AW.gets X gs_K_100.1 gs_K_100.2 (K_compared_d.d 0 rfl) ?_
  refine AW.run X K_compared_d 1 1 rfl ?_
  refine AW.callU (rc := ("NumberFunctions$Word", Cl_O, 4)) (As := []) X (JEnum_ordinal_m 25 (by decide) (x_w S tl)) cu_K_105_O rfl rfl rfl ⟨Nat.le_of_ble_eq_true rfl, Nat.le_of_ble_eq_true rfl⟩ (Nat.le_of_ble_eq_true rfl) ⟨Nat.le_of_ble_eq_true rfl, Nat.le_of_ble_eq_true rfl⟩ (K_compared_d.d 2 rfl) (fun v h' q => ?_)
  obtain ⟨rfl, rfl⟩ := q
  refine AW.tiald (j := 25) X (List.mem_of_getElem? (i := 1) rfl) rfl (by decide) (by decide) (K_compared_d.d 3 rfl) ?_
  refine AW.tableIn X (K_compared_d.d 4 rfl) (by decide) (by decide) (off := 80) (by decide) ?_
  refine AW.run X K_compared_d 33 2 rfl ?_
  refine AW.icmp_ge X (K_compared_d.d 35 rfl) (fun q35 => ?_) (fun q35 => ?_)
  · refine AW.run X K_compared_d 38 1 rfl ?_
    exact AW.zret X n_0 (K_compared_d.d 39 rfl) (Nat.le_of_ble_eq_true rfl) (Nat.le_of_ble_eq_true rfl) ⟨vb_f (fun z => by have := (iZ_le hb ha).mp q35; omega), rfl⟩
  · refine AW.run X K_compared_d 36 1 rfl ?_
    refine AW.goto X (K_compared_d.d 37 rfl) ?_
    exact AW.zret X n_1 (K_compared_d.d 39 rfl) (Nat.le_of_ble_eq_true rfl) (Nat.le_of_ble_eq_true rfl) ⟨vb_t (by have := mt (iZ_le hb ha).mpr q35; omega), rfl⟩

set_option maxHeartbeats 4000000 in
set_option maxRecDepth 100000 in
theorem K_compared26_m {l : Launch} {G : ax_G} (S : x_S) (tl : List va_E) (a b : Int) (ha : zI a) (hb : zI b) :
    AM l VV G K_compared_y K_compared_c 3 (some .boolean) 1 0 0 [.ref 26, .int (iZ a), .int (iZ b)] (x_hC S tl) (fun v h' => v = some (.int (bI (decide (a ≤ b)))) ∧ h' = x_hC S tl) := by
  refine AM.of (pl := pl_K) (by decide) v_good fl_K_ok kl_K_ok nofun (Nat.le_of_ble_eq_true rfl) ?_
  intro p e s m args below meth c X
  refine AW.gets X gs_K_100.1 gs_K_100.2 (K_compared_d.d 0 rfl) ?_
  refine AW.run X K_compared_d 1 1 rfl ?_
  refine AW.callU (rc := ("NumberFunctions$Word", Cl_O, 4)) (As := []) X (JEnum_ordinal_m 26 (by decide) (x_w S tl)) cu_K_105_O rfl rfl rfl ⟨Nat.le_of_ble_eq_true rfl, Nat.le_of_ble_eq_true rfl⟩ (Nat.le_of_ble_eq_true rfl) ⟨Nat.le_of_ble_eq_true rfl, Nat.le_of_ble_eq_true rfl⟩ (K_compared_d.d 2 rfl) (fun v h' q => ?_)
  obtain ⟨rfl, rfl⟩ := q
  refine AW.tiald (j := 26) X (List.mem_of_getElem? (i := 1) rfl) rfl (by decide) (by decide) (K_compared_d.d 3 rfl) ?_
  refine AW.tableOut X (K_compared_d.d 4 rfl) (by decide) ?_
  refine AW.run X K_compared_d 40 2 rfl ?_
  refine AW.icmp_gt X (K_compared_d.d 42 rfl) (fun q42 => ?_) (fun q42 => ?_)
  · refine AW.run X K_compared_d 45 1 rfl ?_
    exact AW.zret X n_0 (K_compared_d.d 46 rfl) (Nat.le_of_ble_eq_true rfl) (Nat.le_of_ble_eq_true rfl) ⟨vb_f (fun z => by have := (iZ_lt hb ha).mp q42; omega), rfl⟩
  · refine AW.run X K_compared_d 43 1 rfl ?_
    refine AW.goto X (K_compared_d.d 44 rfl) ?_
    exact AW.zret X n_1 (K_compared_d.d 46 rfl) (Nat.le_of_ble_eq_true rfl) (Nat.le_of_ble_eq_true rfl) ⟨vb_t (by have := mt (iZ_lt hb ha).mpr q42; omega), rfl⟩

set_option maxHeartbeats 4000000 in
set_option maxRecDepth 100000 in
theorem K_comparison21_m {l : Launch} {G : ax_G} (S : x_S) (tl : List va_E) (n : Nat) (u : Nat → Int) (t : Nat → Bool) (hW : WS n u t) (hK : KS S n u t) (hn : 2 ≤ n) (num : Int) :
    AM l VV G K_comparison_y K_comparison_c 5 (some .int) 3 0 0 [.ref 150, .ref 21] (x_hC S tl) (fun v h' => kp S tl (pS 21 num n u t) v h') := by
  refine AM.of (pl := pl_K) (by decide) v_good fl_K_ok kl_K_ok nofun (Nat.le_of_ble_eq_true rfl) ?_
  intro p e s m args below meth c X
  refine AW.run X K_comparison_d 0 6 rfl ?_
  refine AW.cl13 (j := n - 2) X (hK.i (k := 2) (by omega)) (by have := hW.1; omega) (K_comparison_d.d 6 rfl) ?_
  rw [(hK.2 (n - 2) (by omega)).2]
  refine AW.run X K_comparison_d 7 7 rfl ?_
  refine AW.cl13 (j := n - 1) X (hK.i (k := 1) (by omega)) (by have := hW.1; omega) (K_comparison_d.d 14 rfl) ?_
  rw [(hK.2 (n - 1) (by omega)).2]
  refine AW.run X K_comparison_d 15 2 rfl ?_
  refine AW.gets X gs_K_156.1 gs_K_156.2 (K_comparison_d.d 17 rfl) ?_
  refine AW.acmp_eq X (some 21) (some 21) (Or.inl (by decide)) (Or.inl (by decide)) (K_comparison_d.d 18 rfl) (fun q => ?_) (fun q => absurd rfl q)
  refine AW.run X K_comparison_d 24 4 rfl ?_
  refine AW.icmp_ne X (K_comparison_d.d 28 rfl) (fun q28 => ?_) (fun q28 => ?_)
  · refine AW.run X K_comparison_d 33 1 rfl ?_
    exact AW.iret X (K_comparison_d.d 34 rfl) (Nat.le_of_ble_eq_true rfl) (Nat.le_of_ble_eq_true rfl) (kp_e (c := 10) (by rw [pS_21]; unfold pcmp; rw [if_neg (by omega), if_pos (Or.inl (fun z => q28 (by rw [z])))]; rfl) (by decide) rfl)
  · refine AW.run X K_comparison_d 29 1 rfl ?_
    refine AW.if_eq X (K_comparison_d.d 30 rfl) (fun q30 => ?_) (fun q30 => absurd rfl q30)
    refine AW.run X K_comparison_d 35 9 rfl ?_
    refine AW.cl12 (j := n - 2) X (hK.i (k := 2) (by omega)) (by have := hW.1; omega) (K_comparison_d.d 44 rfl) ?_
    rw [(hK.2 (n - 2) (by omega)).1]
    refine AW.run X K_comparison_d 45 6 rfl ?_
    refine AW.cl12 (j := n - 1) X (hK.i (k := 1) (by omega)) (by have := hW.1; omega) (K_comparison_d.d 51 rfl) ?_
    rw [(hK.2 (n - 1) (by omega)).1]
    refine AW.callS (As := [.ref 21, .int (iZ (u (n - 2))), .int (iZ (u (n - 1)))]) X (K_compared21_m S tl (u (n - 2)) (u (n - 1)) (zN_I (hW.2 (n - 2) (by omega)).1) (zN_I (hW.2 (n - 1) (by omega)).1)) cb_K_162 K_compared_st rfl ⟨Nat.le_of_ble_eq_true rfl, Nat.le_of_ble_eq_true rfl⟩ (Nat.le_of_ble_eq_true rfl) ⟨Nat.le_of_ble_eq_true rfl, Nat.le_of_ble_eq_true rfl⟩ (K_comparison_d.d 52 rfl) (fun v h' q => ?_)
    obtain ⟨rfl, rfl⟩ := q
    refine AW.callV (As := [.int (nI 2), .int (bI (decide (u (n - 2) = u (n - 1))))]) X (K_giveTruth_m S tl n 2 u t hW hK (decide (u (n - 2) = u (n - 1))) (by omega)) cb_K_90 rfl rfl K_giveTruth_im K_giveTruth_se rfl ⟨Nat.le_of_ble_eq_true rfl, Nat.le_of_ble_eq_true rfl⟩ (Nat.le_of_ble_eq_true rfl) ⟨Nat.le_of_ble_eq_true rfl, Nat.le_of_ble_eq_true rfl⟩ (K_comparison_d.d 53 rfl) (fun v h' q => ?_)
    obtain ⟨rfl, q⟩ := q
    exact AW.iret X (K_comparison_d.d 54 rfl) (Nat.le_of_ble_eq_true rfl) (Nat.le_of_ble_eq_true rfl) (kp_eq (by rw [pS_21]; unfold pcmp; rw [if_neg (by omega), if_neg (fun z => z.elim (fun z => z (bI_inj.mp q28)) (fun z => Bool.false_ne_true z.1))]) ⟨rfl, q⟩)

set_option maxHeartbeats 4000000 in
set_option maxRecDepth 100000 in
theorem K_comparison22_m {l : Launch} {G : ax_G} (S : x_S) (tl : List va_E) (n : Nat) (u : Nat → Int) (t : Nat → Bool) (hW : WS n u t) (hK : KS S n u t) (hn : 2 ≤ n) (num : Int) :
    AM l VV G K_comparison_y K_comparison_c 5 (some .int) 3 0 0 [.ref 150, .ref 22] (x_hC S tl) (fun v h' => kp S tl (pS 22 num n u t) v h') := by
  refine AM.of (pl := pl_K) (by decide) v_good fl_K_ok kl_K_ok nofun (Nat.le_of_ble_eq_true rfl) ?_
  intro p e s m args below meth c X
  refine AW.run X K_comparison_d 0 6 rfl ?_
  refine AW.cl13 (j := n - 2) X (hK.i (k := 2) (by omega)) (by have := hW.1; omega) (K_comparison_d.d 6 rfl) ?_
  rw [(hK.2 (n - 2) (by omega)).2]
  refine AW.run X K_comparison_d 7 7 rfl ?_
  refine AW.cl13 (j := n - 1) X (hK.i (k := 1) (by omega)) (by have := hW.1; omega) (K_comparison_d.d 14 rfl) ?_
  rw [(hK.2 (n - 1) (by omega)).2]
  refine AW.run X K_comparison_d 15 2 rfl ?_
  refine AW.gets X gs_K_156.1 gs_K_156.2 (K_comparison_d.d 17 rfl) ?_
  refine AW.acmp_eq X (some 22) (some 21) (Or.inl (by decide)) (Or.inl (by decide)) (K_comparison_d.d 18 rfl) (fun q => absurd q (by decide)) (fun q => ?_)
  refine AW.run X K_comparison_d 19 1 rfl ?_
  refine AW.gets X gs_K_159.1 gs_K_159.2 (K_comparison_d.d 20 rfl) ?_
  refine AW.acmp_eq X (some 22) (some 22) (Or.inl (by decide)) (Or.inl (by decide)) (K_comparison_d.d 21 rfl) (fun q => ?_) (fun q => absurd rfl q)
  refine AW.run X K_comparison_d 24 4 rfl ?_
  refine AW.icmp_ne X (K_comparison_d.d 28 rfl) (fun q28 => ?_) (fun q28 => ?_)
  · refine AW.run X K_comparison_d 33 1 rfl ?_
    exact AW.iret X (K_comparison_d.d 34 rfl) (Nat.le_of_ble_eq_true rfl) (Nat.le_of_ble_eq_true rfl) (kp_e (c := 10) (by rw [pS_22]; unfold pcmp; rw [if_neg (by omega), if_pos (Or.inl (fun z => q28 (by rw [z])))]; rfl) (by decide) rfl)
  · refine AW.run X K_comparison_d 29 1 rfl ?_
    refine AW.if_eq X (K_comparison_d.d 30 rfl) (fun q30 => ?_) (fun q30 => absurd rfl q30)
    refine AW.run X K_comparison_d 35 9 rfl ?_
    refine AW.cl12 (j := n - 2) X (hK.i (k := 2) (by omega)) (by have := hW.1; omega) (K_comparison_d.d 44 rfl) ?_
    rw [(hK.2 (n - 2) (by omega)).1]
    refine AW.run X K_comparison_d 45 6 rfl ?_
    refine AW.cl12 (j := n - 1) X (hK.i (k := 1) (by omega)) (by have := hW.1; omega) (K_comparison_d.d 51 rfl) ?_
    rw [(hK.2 (n - 1) (by omega)).1]
    refine AW.callS (As := [.ref 22, .int (iZ (u (n - 2))), .int (iZ (u (n - 1)))]) X (K_compared22_m S tl (u (n - 2)) (u (n - 1)) (zN_I (hW.2 (n - 2) (by omega)).1) (zN_I (hW.2 (n - 1) (by omega)).1)) cb_K_162 K_compared_st rfl ⟨Nat.le_of_ble_eq_true rfl, Nat.le_of_ble_eq_true rfl⟩ (Nat.le_of_ble_eq_true rfl) ⟨Nat.le_of_ble_eq_true rfl, Nat.le_of_ble_eq_true rfl⟩ (K_comparison_d.d 52 rfl) (fun v h' q => ?_)
    obtain ⟨rfl, rfl⟩ := q
    refine AW.callV (As := [.int (nI 2), .int (bI (decide (u (n - 2) ≠ u (n - 1))))]) X (K_giveTruth_m S tl n 2 u t hW hK (decide (u (n - 2) ≠ u (n - 1))) (by omega)) cb_K_90 rfl rfl K_giveTruth_im K_giveTruth_se rfl ⟨Nat.le_of_ble_eq_true rfl, Nat.le_of_ble_eq_true rfl⟩ (Nat.le_of_ble_eq_true rfl) ⟨Nat.le_of_ble_eq_true rfl, Nat.le_of_ble_eq_true rfl⟩ (K_comparison_d.d 53 rfl) (fun v h' q => ?_)
    obtain ⟨rfl, q⟩ := q
    exact AW.iret X (K_comparison_d.d 54 rfl) (Nat.le_of_ble_eq_true rfl) (Nat.le_of_ble_eq_true rfl) (kp_eq (by rw [pS_22]; unfold pcmp; rw [if_neg (by omega), if_neg (fun z => z.elim (fun z => z (bI_inj.mp q28)) (fun z => Bool.false_ne_true z.1))]) ⟨rfl, q⟩)

set_option maxHeartbeats 4000000 in
set_option maxRecDepth 100000 in
theorem K_comparison23_m {l : Launch} {G : ax_G} (S : x_S) (tl : List va_E) (n : Nat) (u : Nat → Int) (t : Nat → Bool) (hW : WS n u t) (hK : KS S n u t) (hn : 2 ≤ n) (num : Int) :
    AM l VV G K_comparison_y K_comparison_c 5 (some .int) 3 0 0 [.ref 150, .ref 23] (x_hC S tl) (fun v h' => kp S tl (pS 23 num n u t) v h') := by
  refine AM.of (pl := pl_K) (by decide) v_good fl_K_ok kl_K_ok nofun (Nat.le_of_ble_eq_true rfl) ?_
  intro p e s m args below meth c X
  refine AW.run X K_comparison_d 0 6 rfl ?_
  refine AW.cl13 (j := n - 2) X (hK.i (k := 2) (by omega)) (by have := hW.1; omega) (K_comparison_d.d 6 rfl) ?_
  rw [(hK.2 (n - 2) (by omega)).2]
  refine AW.run X K_comparison_d 7 7 rfl ?_
  refine AW.cl13 (j := n - 1) X (hK.i (k := 1) (by omega)) (by have := hW.1; omega) (K_comparison_d.d 14 rfl) ?_
  rw [(hK.2 (n - 1) (by omega)).2]
  refine AW.run X K_comparison_d 15 2 rfl ?_
  refine AW.gets X gs_K_156.1 gs_K_156.2 (K_comparison_d.d 17 rfl) ?_
  refine AW.acmp_eq X (some 23) (some 21) (Or.inl (by decide)) (Or.inl (by decide)) (K_comparison_d.d 18 rfl) (fun q => absurd q (by decide)) (fun q => ?_)
  refine AW.run X K_comparison_d 19 1 rfl ?_
  refine AW.gets X gs_K_159.1 gs_K_159.2 (K_comparison_d.d 20 rfl) ?_
  refine AW.acmp_eq X (some 23) (some 22) (Or.inl (by decide)) (Or.inl (by decide)) (K_comparison_d.d 21 rfl) (fun q => absurd q (by decide)) (fun q => ?_)
  refine AW.run X K_comparison_d 22 1 rfl ?_
  refine AW.goto X (K_comparison_d.d 23 rfl) ?_
  refine AW.run X K_comparison_d 25 3 rfl ?_
  refine AW.icmp_ne X (K_comparison_d.d 28 rfl) (fun q28 => ?_) (fun q28 => ?_)
  · refine AW.run X K_comparison_d 33 1 rfl ?_
    exact AW.iret X (K_comparison_d.d 34 rfl) (Nat.le_of_ble_eq_true rfl) (Nat.le_of_ble_eq_true rfl) (kp_e (c := 10) (by rw [pS_23]; unfold pcmp; rw [if_neg (by omega), if_pos (Or.inl (fun z => q28 (by rw [z])))]; rfl) (by decide) rfl)
  · refine AW.run X K_comparison_d 29 1 rfl ?_
    refine AW.if_eq X (K_comparison_d.d 30 rfl) (fun q30 => absurd q30 (by decide)) (fun q30 => ?_)
    refine AW.run X K_comparison_d 31 1 rfl ?_
    refine AW.if_eq X (K_comparison_d.d 32 rfl) (fun q32 => ?_) (fun q32 => ?_)
    · refine AW.run X K_comparison_d 35 9 rfl ?_
      refine AW.cl12 (j := n - 2) X (hK.i (k := 2) (by omega)) (by have := hW.1; omega) (K_comparison_d.d 44 rfl) ?_
      rw [(hK.2 (n - 2) (by omega)).1]
      refine AW.run X K_comparison_d 45 6 rfl ?_
      refine AW.cl12 (j := n - 1) X (hK.i (k := 1) (by omega)) (by have := hW.1; omega) (K_comparison_d.d 51 rfl) ?_
      rw [(hK.2 (n - 1) (by omega)).1]
      refine AW.callS (As := [.ref 23, .int (iZ (u (n - 2))), .int (iZ (u (n - 1)))]) X (K_compared23_m S tl (u (n - 2)) (u (n - 1)) (zN_I (hW.2 (n - 2) (by omega)).1) (zN_I (hW.2 (n - 1) (by omega)).1)) cb_K_162 K_compared_st rfl ⟨Nat.le_of_ble_eq_true rfl, Nat.le_of_ble_eq_true rfl⟩ (Nat.le_of_ble_eq_true rfl) ⟨Nat.le_of_ble_eq_true rfl, Nat.le_of_ble_eq_true rfl⟩ (K_comparison_d.d 52 rfl) (fun v h' q => ?_)
      obtain ⟨rfl, rfl⟩ := q
      refine AW.callV (As := [.int (nI 2), .int (bI (decide (u (n - 1) < u (n - 2))))]) X (K_giveTruth_m S tl n 2 u t hW hK (decide (u (n - 1) < u (n - 2))) (by omega)) cb_K_90 rfl rfl K_giveTruth_im K_giveTruth_se rfl ⟨Nat.le_of_ble_eq_true rfl, Nat.le_of_ble_eq_true rfl⟩ (Nat.le_of_ble_eq_true rfl) ⟨Nat.le_of_ble_eq_true rfl, Nat.le_of_ble_eq_true rfl⟩ (K_comparison_d.d 53 rfl) (fun v h' q => ?_)
      obtain ⟨rfl, q⟩ := q
      exact AW.iret X (K_comparison_d.d 54 rfl) (Nat.le_of_ble_eq_true rfl) (Nat.le_of_ble_eq_true rfl) (kp_eq (by rw [pS_23]; unfold pcmp; rw [if_neg (by omega), if_neg (fun z => z.elim (fun z => z (bI_inj.mp q28)) (fun z => by rw [bI_f0 q32] at z; exact Bool.false_ne_true z.2))]) ⟨rfl, q⟩)
    · refine AW.run X K_comparison_d 33 1 rfl ?_
      exact AW.iret X (K_comparison_d.d 34 rfl) (Nat.le_of_ble_eq_true rfl) (Nat.le_of_ble_eq_true rfl) (kp_e (c := 10) (by rw [pS_23]; unfold pcmp; rw [if_neg (by omega), if_pos (Or.inr ⟨rfl, Bool.of_not_eq_false (fun z => q32 ((bI_0 _).mpr z))⟩)]; rfl) (by decide) rfl)

set_option maxHeartbeats 4000000 in
set_option maxRecDepth 100000 in
theorem K_comparison24_m {l : Launch} {G : ax_G} (S : x_S) (tl : List va_E) (n : Nat) (u : Nat → Int) (t : Nat → Bool) (hW : WS n u t) (hK : KS S n u t) (hn : 2 ≤ n) (num : Int) :
    AM l VV G K_comparison_y K_comparison_c 5 (some .int) 3 0 0 [.ref 150, .ref 24] (x_hC S tl) (fun v h' => kp S tl (pS 24 num n u t) v h') := by
  refine AM.of (pl := pl_K) (by decide) v_good fl_K_ok kl_K_ok nofun (Nat.le_of_ble_eq_true rfl) ?_
  intro p e s m args below meth c X
  refine AW.run X K_comparison_d 0 6 rfl ?_
  refine AW.cl13 (j := n - 2) X (hK.i (k := 2) (by omega)) (by have := hW.1; omega) (K_comparison_d.d 6 rfl) ?_
  rw [(hK.2 (n - 2) (by omega)).2]
  refine AW.run X K_comparison_d 7 7 rfl ?_
  refine AW.cl13 (j := n - 1) X (hK.i (k := 1) (by omega)) (by have := hW.1; omega) (K_comparison_d.d 14 rfl) ?_
  rw [(hK.2 (n - 1) (by omega)).2]
  refine AW.run X K_comparison_d 15 2 rfl ?_
  refine AW.gets X gs_K_156.1 gs_K_156.2 (K_comparison_d.d 17 rfl) ?_
  refine AW.acmp_eq X (some 24) (some 21) (Or.inl (by decide)) (Or.inl (by decide)) (K_comparison_d.d 18 rfl) (fun q => absurd q (by decide)) (fun q => ?_)
  refine AW.run X K_comparison_d 19 1 rfl ?_
  refine AW.gets X gs_K_159.1 gs_K_159.2 (K_comparison_d.d 20 rfl) ?_
  refine AW.acmp_eq X (some 24) (some 22) (Or.inl (by decide)) (Or.inl (by decide)) (K_comparison_d.d 21 rfl) (fun q => absurd q (by decide)) (fun q => ?_)
  refine AW.run X K_comparison_d 22 1 rfl ?_
  refine AW.goto X (K_comparison_d.d 23 rfl) ?_
  refine AW.run X K_comparison_d 25 3 rfl ?_
  refine AW.icmp_ne X (K_comparison_d.d 28 rfl) (fun q28 => ?_) (fun q28 => ?_)
  · refine AW.run X K_comparison_d 33 1 rfl ?_
    exact AW.iret X (K_comparison_d.d 34 rfl) (Nat.le_of_ble_eq_true rfl) (Nat.le_of_ble_eq_true rfl) (kp_e (c := 10) (by rw [pS_24]; unfold pcmp; rw [if_neg (by omega), if_pos (Or.inl (fun z => q28 (by rw [z])))]; rfl) (by decide) rfl)
  · refine AW.run X K_comparison_d 29 1 rfl ?_
    refine AW.if_eq X (K_comparison_d.d 30 rfl) (fun q30 => absurd q30 (by decide)) (fun q30 => ?_)
    refine AW.run X K_comparison_d 31 1 rfl ?_
    refine AW.if_eq X (K_comparison_d.d 32 rfl) (fun q32 => ?_) (fun q32 => ?_)
    · refine AW.run X K_comparison_d 35 9 rfl ?_
      refine AW.cl12 (j := n - 2) X (hK.i (k := 2) (by omega)) (by have := hW.1; omega) (K_comparison_d.d 44 rfl) ?_
      rw [(hK.2 (n - 2) (by omega)).1]
      refine AW.run X K_comparison_d 45 6 rfl ?_
      refine AW.cl12 (j := n - 1) X (hK.i (k := 1) (by omega)) (by have := hW.1; omega) (K_comparison_d.d 51 rfl) ?_
      rw [(hK.2 (n - 1) (by omega)).1]
      refine AW.callS (As := [.ref 24, .int (iZ (u (n - 2))), .int (iZ (u (n - 1)))]) X (K_compared24_m S tl (u (n - 2)) (u (n - 1)) (zN_I (hW.2 (n - 2) (by omega)).1) (zN_I (hW.2 (n - 1) (by omega)).1)) cb_K_162 K_compared_st rfl ⟨Nat.le_of_ble_eq_true rfl, Nat.le_of_ble_eq_true rfl⟩ (Nat.le_of_ble_eq_true rfl) ⟨Nat.le_of_ble_eq_true rfl, Nat.le_of_ble_eq_true rfl⟩ (K_comparison_d.d 52 rfl) (fun v h' q => ?_)
      obtain ⟨rfl, rfl⟩ := q
      refine AW.callV (As := [.int (nI 2), .int (bI (decide (u (n - 1) ≤ u (n - 2))))]) X (K_giveTruth_m S tl n 2 u t hW hK (decide (u (n - 1) ≤ u (n - 2))) (by omega)) cb_K_90 rfl rfl K_giveTruth_im K_giveTruth_se rfl ⟨Nat.le_of_ble_eq_true rfl, Nat.le_of_ble_eq_true rfl⟩ (Nat.le_of_ble_eq_true rfl) ⟨Nat.le_of_ble_eq_true rfl, Nat.le_of_ble_eq_true rfl⟩ (K_comparison_d.d 53 rfl) (fun v h' q => ?_)
      obtain ⟨rfl, q⟩ := q
      exact AW.iret X (K_comparison_d.d 54 rfl) (Nat.le_of_ble_eq_true rfl) (Nat.le_of_ble_eq_true rfl) (kp_eq (by rw [pS_24]; unfold pcmp; rw [if_neg (by omega), if_neg (fun z => z.elim (fun z => z (bI_inj.mp q28)) (fun z => by rw [bI_f0 q32] at z; exact Bool.false_ne_true z.2))]) ⟨rfl, q⟩)
    · refine AW.run X K_comparison_d 33 1 rfl ?_
      exact AW.iret X (K_comparison_d.d 34 rfl) (Nat.le_of_ble_eq_true rfl) (Nat.le_of_ble_eq_true rfl) (kp_e (c := 10) (by rw [pS_24]; unfold pcmp; rw [if_neg (by omega), if_pos (Or.inr ⟨rfl, Bool.of_not_eq_false (fun z => q32 ((bI_0 _).mpr z))⟩)]; rfl) (by decide) rfl)

set_option maxHeartbeats 4000000 in
set_option maxRecDepth 100000 in
theorem K_comparison25_m {l : Launch} {G : ax_G} (S : x_S) (tl : List va_E) (n : Nat) (u : Nat → Int) (t : Nat → Bool) (hW : WS n u t) (hK : KS S n u t) (hn : 2 ≤ n) (num : Int) :
    AM l VV G K_comparison_y K_comparison_c 5 (some .int) 3 0 0 [.ref 150, .ref 25] (x_hC S tl) (fun v h' => kp S tl (pS 25 num n u t) v h') := by
  refine AM.of (pl := pl_K) (by decide) v_good fl_K_ok kl_K_ok nofun (Nat.le_of_ble_eq_true rfl) ?_
  intro p e s m args below meth c X
  refine AW.run X K_comparison_d 0 6 rfl ?_
  refine AW.cl13 (j := n - 2) X (hK.i (k := 2) (by omega)) (by have := hW.1; omega) (K_comparison_d.d 6 rfl) ?_
  rw [(hK.2 (n - 2) (by omega)).2]
  refine AW.run X K_comparison_d 7 7 rfl ?_
  refine AW.cl13 (j := n - 1) X (hK.i (k := 1) (by omega)) (by have := hW.1; omega) (K_comparison_d.d 14 rfl) ?_
  rw [(hK.2 (n - 1) (by omega)).2]
  refine AW.run X K_comparison_d 15 2 rfl ?_
  refine AW.gets X gs_K_156.1 gs_K_156.2 (K_comparison_d.d 17 rfl) ?_
  refine AW.acmp_eq X (some 25) (some 21) (Or.inl (by decide)) (Or.inl (by decide)) (K_comparison_d.d 18 rfl) (fun q => absurd q (by decide)) (fun q => ?_)
  refine AW.run X K_comparison_d 19 1 rfl ?_
  refine AW.gets X gs_K_159.1 gs_K_159.2 (K_comparison_d.d 20 rfl) ?_
  refine AW.acmp_eq X (some 25) (some 22) (Or.inl (by decide)) (Or.inl (by decide)) (K_comparison_d.d 21 rfl) (fun q => absurd q (by decide)) (fun q => ?_)
  refine AW.run X K_comparison_d 22 1 rfl ?_
  refine AW.goto X (K_comparison_d.d 23 rfl) ?_
  refine AW.run X K_comparison_d 25 3 rfl ?_
  refine AW.icmp_ne X (K_comparison_d.d 28 rfl) (fun q28 => ?_) (fun q28 => ?_)
  · refine AW.run X K_comparison_d 33 1 rfl ?_
    exact AW.iret X (K_comparison_d.d 34 rfl) (Nat.le_of_ble_eq_true rfl) (Nat.le_of_ble_eq_true rfl) (kp_e (c := 10) (by rw [pS_25]; unfold pcmp; rw [if_neg (by omega), if_pos (Or.inl (fun z => q28 (by rw [z])))]; rfl) (by decide) rfl)
  · refine AW.run X K_comparison_d 29 1 rfl ?_
    refine AW.if_eq X (K_comparison_d.d 30 rfl) (fun q30 => absurd q30 (by decide)) (fun q30 => ?_)
    refine AW.run X K_comparison_d 31 1 rfl ?_
    refine AW.if_eq X (K_comparison_d.d 32 rfl) (fun q32 => ?_) (fun q32 => ?_)
    · refine AW.run X K_comparison_d 35 9 rfl ?_
      refine AW.cl12 (j := n - 2) X (hK.i (k := 2) (by omega)) (by have := hW.1; omega) (K_comparison_d.d 44 rfl) ?_
      rw [(hK.2 (n - 2) (by omega)).1]
      refine AW.run X K_comparison_d 45 6 rfl ?_
      refine AW.cl12 (j := n - 1) X (hK.i (k := 1) (by omega)) (by have := hW.1; omega) (K_comparison_d.d 51 rfl) ?_
      rw [(hK.2 (n - 1) (by omega)).1]
      refine AW.callS (As := [.ref 25, .int (iZ (u (n - 2))), .int (iZ (u (n - 1)))]) X (K_compared25_m S tl (u (n - 2)) (u (n - 1)) (zN_I (hW.2 (n - 2) (by omega)).1) (zN_I (hW.2 (n - 1) (by omega)).1)) cb_K_162 K_compared_st rfl ⟨Nat.le_of_ble_eq_true rfl, Nat.le_of_ble_eq_true rfl⟩ (Nat.le_of_ble_eq_true rfl) ⟨Nat.le_of_ble_eq_true rfl, Nat.le_of_ble_eq_true rfl⟩ (K_comparison_d.d 52 rfl) (fun v h' q => ?_)
      obtain ⟨rfl, rfl⟩ := q
      refine AW.callV (As := [.int (nI 2), .int (bI (decide (u (n - 2) < u (n - 1))))]) X (K_giveTruth_m S tl n 2 u t hW hK (decide (u (n - 2) < u (n - 1))) (by omega)) cb_K_90 rfl rfl K_giveTruth_im K_giveTruth_se rfl ⟨Nat.le_of_ble_eq_true rfl, Nat.le_of_ble_eq_true rfl⟩ (Nat.le_of_ble_eq_true rfl) ⟨Nat.le_of_ble_eq_true rfl, Nat.le_of_ble_eq_true rfl⟩ (K_comparison_d.d 53 rfl) (fun v h' q => ?_)
      obtain ⟨rfl, q⟩ := q
      exact AW.iret X (K_comparison_d.d 54 rfl) (Nat.le_of_ble_eq_true rfl) (Nat.le_of_ble_eq_true rfl) (kp_eq (by rw [pS_25]; unfold pcmp; rw [if_neg (by omega), if_neg (fun z => z.elim (fun z => z (bI_inj.mp q28)) (fun z => by rw [bI_f0 q32] at z; exact Bool.false_ne_true z.2))]) ⟨rfl, q⟩)
    · refine AW.run X K_comparison_d 33 1 rfl ?_
      exact AW.iret X (K_comparison_d.d 34 rfl) (Nat.le_of_ble_eq_true rfl) (Nat.le_of_ble_eq_true rfl) (kp_e (c := 10) (by rw [pS_25]; unfold pcmp; rw [if_neg (by omega), if_pos (Or.inr ⟨rfl, Bool.of_not_eq_false (fun z => q32 ((bI_0 _).mpr z))⟩)]; rfl) (by decide) rfl)

set_option maxHeartbeats 4000000 in
set_option maxRecDepth 100000 in
theorem K_comparison26_m {l : Launch} {G : ax_G} (S : x_S) (tl : List va_E) (n : Nat) (u : Nat → Int) (t : Nat → Bool) (hW : WS n u t) (hK : KS S n u t) (hn : 2 ≤ n) (num : Int) :
    AM l VV G K_comparison_y K_comparison_c 5 (some .int) 3 0 0 [.ref 150, .ref 26] (x_hC S tl) (fun v h' => kp S tl (pS 26 num n u t) v h') := by
  refine AM.of (pl := pl_K) (by decide) v_good fl_K_ok kl_K_ok nofun (Nat.le_of_ble_eq_true rfl) ?_
  intro p e s m args below meth c X
  refine AW.run X K_comparison_d 0 6 rfl ?_
  refine AW.cl13 (j := n - 2) X (hK.i (k := 2) (by omega)) (by have := hW.1; omega) (K_comparison_d.d 6 rfl) ?_
  rw [(hK.2 (n - 2) (by omega)).2]
  refine AW.run X K_comparison_d 7 7 rfl ?_
  refine AW.cl13 (j := n - 1) X (hK.i (k := 1) (by omega)) (by have := hW.1; omega) (K_comparison_d.d 14 rfl) ?_
  rw [(hK.2 (n - 1) (by omega)).2]
  refine AW.run X K_comparison_d 15 2 rfl ?_
  refine AW.gets X gs_K_156.1 gs_K_156.2 (K_comparison_d.d 17 rfl) ?_
  refine AW.acmp_eq X (some 26) (some 21) (Or.inl (by decide)) (Or.inl (by decide)) (K_comparison_d.d 18 rfl) (fun q => absurd q (by decide)) (fun q => ?_)
  refine AW.run X K_comparison_d 19 1 rfl ?_
  refine AW.gets X gs_K_159.1 gs_K_159.2 (K_comparison_d.d 20 rfl) ?_
  refine AW.acmp_eq X (some 26) (some 22) (Or.inl (by decide)) (Or.inl (by decide)) (K_comparison_d.d 21 rfl) (fun q => absurd q (by decide)) (fun q => ?_)
  refine AW.run X K_comparison_d 22 1 rfl ?_
  refine AW.goto X (K_comparison_d.d 23 rfl) ?_
  refine AW.run X K_comparison_d 25 3 rfl ?_
  refine AW.icmp_ne X (K_comparison_d.d 28 rfl) (fun q28 => ?_) (fun q28 => ?_)
  · refine AW.run X K_comparison_d 33 1 rfl ?_
    exact AW.iret X (K_comparison_d.d 34 rfl) (Nat.le_of_ble_eq_true rfl) (Nat.le_of_ble_eq_true rfl) (kp_e (c := 10) (by rw [pS_26]; unfold pcmp; rw [if_neg (by omega), if_pos (Or.inl (fun z => q28 (by rw [z])))]; rfl) (by decide) rfl)
  · refine AW.run X K_comparison_d 29 1 rfl ?_
    refine AW.if_eq X (K_comparison_d.d 30 rfl) (fun q30 => absurd q30 (by decide)) (fun q30 => ?_)
    refine AW.run X K_comparison_d 31 1 rfl ?_
    refine AW.if_eq X (K_comparison_d.d 32 rfl) (fun q32 => ?_) (fun q32 => ?_)
    · refine AW.run X K_comparison_d 35 9 rfl ?_
      refine AW.cl12 (j := n - 2) X (hK.i (k := 2) (by omega)) (by have := hW.1; omega) (K_comparison_d.d 44 rfl) ?_
      rw [(hK.2 (n - 2) (by omega)).1]
      refine AW.run X K_comparison_d 45 6 rfl ?_
      refine AW.cl12 (j := n - 1) X (hK.i (k := 1) (by omega)) (by have := hW.1; omega) (K_comparison_d.d 51 rfl) ?_
      rw [(hK.2 (n - 1) (by omega)).1]
      refine AW.callS (As := [.ref 26, .int (iZ (u (n - 2))), .int (iZ (u (n - 1)))]) X (K_compared26_m S tl (u (n - 2)) (u (n - 1)) (zN_I (hW.2 (n - 2) (by omega)).1) (zN_I (hW.2 (n - 1) (by omega)).1)) cb_K_162 K_compared_st rfl ⟨Nat.le_of_ble_eq_true rfl, Nat.le_of_ble_eq_true rfl⟩ (Nat.le_of_ble_eq_true rfl) ⟨Nat.le_of_ble_eq_true rfl, Nat.le_of_ble_eq_true rfl⟩ (K_comparison_d.d 52 rfl) (fun v h' q => ?_)
      obtain ⟨rfl, rfl⟩ := q
      refine AW.callV (As := [.int (nI 2), .int (bI (decide (u (n - 2) ≤ u (n - 1))))]) X (K_giveTruth_m S tl n 2 u t hW hK (decide (u (n - 2) ≤ u (n - 1))) (by omega)) cb_K_90 rfl rfl K_giveTruth_im K_giveTruth_se rfl ⟨Nat.le_of_ble_eq_true rfl, Nat.le_of_ble_eq_true rfl⟩ (Nat.le_of_ble_eq_true rfl) ⟨Nat.le_of_ble_eq_true rfl, Nat.le_of_ble_eq_true rfl⟩ (K_comparison_d.d 53 rfl) (fun v h' q => ?_)
      obtain ⟨rfl, q⟩ := q
      exact AW.iret X (K_comparison_d.d 54 rfl) (Nat.le_of_ble_eq_true rfl) (Nat.le_of_ble_eq_true rfl) (kp_eq (by rw [pS_26]; unfold pcmp; rw [if_neg (by omega), if_neg (fun z => z.elim (fun z => z (bI_inj.mp q28)) (fun z => by rw [bI_f0 q32] at z; exact Bool.false_ne_true z.2))]) ⟨rfl, q⟩)
    · refine AW.run X K_comparison_d 33 1 rfl ?_
      exact AW.iret X (K_comparison_d.d 34 rfl) (Nat.le_of_ble_eq_true rfl) (Nat.le_of_ble_eq_true rfl) (kp_e (c := 10) (by rw [pS_26]; unfold pcmp; rw [if_neg (by omega), if_pos (Or.inr ⟨rfl, Bool.of_not_eq_false (fun z => q32 ((bI_0 _).mpr z))⟩)]; rfl) (by decide) rfl)

set_option maxHeartbeats 4000000 in
set_option maxRecDepth 100000 in
theorem K_combined27_m {l : Launch} {G : ax_G} (S : x_S) (tl : List va_E) (a b : Int32) :
    AM l VV G K_combined_y K_combined_c 3 (some .int) 1 0 0 [.ref 27, .int a, .int b] (x_hC S tl) (fun v h' => v = some (.int (a &&& b)) ∧ h' = x_hC S tl) := by
  refine AM.of (pl := pl_K) (by decide) v_good fl_K_ok kl_K_ok nofun (Nat.le_of_ble_eq_true rfl) ?_
  intro p e s m args below meth c X
  refine AW.gets X gs_K_100.1 gs_K_100.2 (K_combined_d.d 0 rfl) ?_
  refine AW.run X K_combined_d 1 1 rfl ?_
  refine AW.callU (rc := ("NumberFunctions$Word", Cl_O, 4)) (As := []) X (JEnum_ordinal_m 27 (by decide) (x_w S tl)) cu_K_105_O rfl rfl rfl ⟨Nat.le_of_ble_eq_true rfl, Nat.le_of_ble_eq_true rfl⟩ (Nat.le_of_ble_eq_true rfl) ⟨Nat.le_of_ble_eq_true rfl, Nat.le_of_ble_eq_true rfl⟩ (K_combined_d.d 2 rfl) (fun v h' q => ?_)
  obtain ⟨rfl, rfl⟩ := q
  refine AW.tiald (j := 27) X (List.mem_of_getElem? (i := 1) rfl) rfl (by decide) (by decide) (K_combined_d.d 3 rfl) ?_
  refine AW.lookup X (K_combined_d.d 4 rfl) (by decide) (off := 28) (by decide) ?_
  refine AW.run X K_combined_d 5 3 rfl ?_
  exact AW.iret X (K_combined_d.d 8 rfl) (Nat.le_of_ble_eq_true rfl) (Nat.le_of_ble_eq_true rfl) ⟨rfl, rfl⟩

set_option maxHeartbeats 4000000 in
set_option maxRecDepth 100000 in
theorem K_combined28_m {l : Launch} {G : ax_G} (S : x_S) (tl : List va_E) (a b : Int32) :
    AM l VV G K_combined_y K_combined_c 3 (some .int) 1 0 0 [.ref 28, .int a, .int b] (x_hC S tl) (fun v h' => v = some (.int (a ||| b)) ∧ h' = x_hC S tl) := by
  refine AM.of (pl := pl_K) (by decide) v_good fl_K_ok kl_K_ok nofun (Nat.le_of_ble_eq_true rfl) ?_
  intro p e s m args below meth c X
  refine AW.gets X gs_K_100.1 gs_K_100.2 (K_combined_d.d 0 rfl) ?_
  refine AW.run X K_combined_d 1 1 rfl ?_
  refine AW.callU (rc := ("NumberFunctions$Word", Cl_O, 4)) (As := []) X (JEnum_ordinal_m 28 (by decide) (x_w S tl)) cu_K_105_O rfl rfl rfl ⟨Nat.le_of_ble_eq_true rfl, Nat.le_of_ble_eq_true rfl⟩ (Nat.le_of_ble_eq_true rfl) ⟨Nat.le_of_ble_eq_true rfl, Nat.le_of_ble_eq_true rfl⟩ (K_combined_d.d 2 rfl) (fun v h' q => ?_)
  obtain ⟨rfl, rfl⟩ := q
  refine AW.tiald (j := 28) X (List.mem_of_getElem? (i := 1) rfl) rfl (by decide) (by decide) (K_combined_d.d 3 rfl) ?_
  refine AW.lookup X (K_combined_d.d 4 rfl) (by decide) (off := 32) (by decide) ?_
  refine AW.run X K_combined_d 9 3 rfl ?_
  exact AW.iret X (K_combined_d.d 12 rfl) (Nat.le_of_ble_eq_true rfl) (Nat.le_of_ble_eq_true rfl) ⟨rfl, rfl⟩

set_option maxHeartbeats 4000000 in
set_option maxRecDepth 100000 in
theorem K_combined29_m {l : Launch} {G : ax_G} (S : x_S) (tl : List va_E) (a b : Int32) :
    AM l VV G K_combined_y K_combined_c 3 (some .int) 1 0 0 [.ref 29, .int a, .int b] (x_hC S tl) (fun v h' => v = some (.int (a ^^^ b)) ∧ h' = x_hC S tl) := by
  refine AM.of (pl := pl_K) (by decide) v_good fl_K_ok kl_K_ok nofun (Nat.le_of_ble_eq_true rfl) ?_
  intro p e s m args below meth c X
  refine AW.gets X gs_K_100.1 gs_K_100.2 (K_combined_d.d 0 rfl) ?_
  refine AW.run X K_combined_d 1 1 rfl ?_
  refine AW.callU (rc := ("NumberFunctions$Word", Cl_O, 4)) (As := []) X (JEnum_ordinal_m 29 (by decide) (x_w S tl)) cu_K_105_O rfl rfl rfl ⟨Nat.le_of_ble_eq_true rfl, Nat.le_of_ble_eq_true rfl⟩ (Nat.le_of_ble_eq_true rfl) ⟨Nat.le_of_ble_eq_true rfl, Nat.le_of_ble_eq_true rfl⟩ (K_combined_d.d 2 rfl) (fun v h' q => ?_)
  obtain ⟨rfl, rfl⟩ := q
  refine AW.tiald (j := 29) X (List.mem_of_getElem? (i := 1) rfl) rfl (by decide) (by decide) (K_combined_d.d 3 rfl) ?_
  refine AW.lookup X (K_combined_d.d 4 rfl) (by decide) (off := 36) (by decide) ?_
  refine AW.run X K_combined_d 13 3 rfl ?_
  exact AW.iret X (K_combined_d.d 16 rfl) (Nat.le_of_ble_eq_true rfl) (Nat.le_of_ble_eq_true rfl) ⟨rfl, rfl⟩

set_option maxHeartbeats 4000000 in
set_option maxRecDepth 100000 in
theorem K_logic27_m {l : Launch} {G : ax_G} (S : x_S) (tl : List va_E) (n : Nat) (u : Nat → Int) (t : Nat → Bool) (hW : WS n u t) (hK : KS S n u t) (hn : 2 ≤ n) (num : Int) :
    AM l VV G K_logic_y K_logic_c 5 (some .int) 3 0 0 [.ref 150, .ref 27] (x_hC S tl) (fun v h' => kp S tl (pS 27 num n u t) v h') := by
  refine AM.of (pl := pl_K) (by decide) v_good fl_K_ok kl_K_ok nofun (Nat.le_of_ble_eq_true rfl) ?_
  intro p e s m args below meth c X
  refine AW.run X K_logic_d 0 6 rfl ?_
  refine AW.cl12 (j := n - 2) X (hK.i (k := 2) (by omega)) (by have := hW.1; omega) (K_logic_d.d 6 rfl) ?_
  rw [(hK.2 (n - 2) (by omega)).1]
  refine AW.run X K_logic_d 7 7 rfl ?_
  refine AW.cl12 (j := n - 1) X (hK.i (k := 1) (by omega)) (by have := hW.1; omega) (K_logic_d.d 14 rfl) ?_
  rw [(hK.2 (n - 1) (by omega)).1]
  refine AW.run X K_logic_d 15 7 rfl ?_
  refine AW.cl13 (j := n - 2) X (hK.i (k := 2) (by omega)) (by have := hW.1; omega) (K_logic_d.d 22 rfl) ?_
  rw [(hK.2 (n - 2) (by omega)).2]
  refine AW.if_eq X (K_logic_d.d 23 rfl) (fun q23 => ?_) (fun q23 => ?_)
  · refine AW.run X K_logic_d 44 2 rfl ?_
    refine AW.callV (As := [.int (nI 2)]) X (K_faultOfWholes2_m S tl n u t hW hK hn) cb_K_138 rfl rfl K_faultOfWholes_im K_faultOfWholes_se rfl ⟨Nat.le_of_ble_eq_true rfl, Nat.le_of_ble_eq_true rfl⟩ (Nat.le_of_ble_eq_true rfl) ⟨Nat.le_of_ble_eq_true rfl, Nat.le_of_ble_eq_true rfl⟩ (K_logic_d.d 46 rfl) (fun v h' q => ?_)
    obtain ⟨rfl, rfl⟩ := q
    refine AW.run X K_logic_d 47 3 rfl ?_
    refine AW.icmp_eq X (K_logic_d.d 50 rfl) (fun q50 => ?_) (fun q50 => ?_)
    · have hp : pwh2 n u t = -1 := (pwh2_c n u t).mp q50
      obtain ⟨hw2, hw1⟩ := pwh2_w hp
      refine AW.run X K_logic_d 53 5 rfl ?_
      refine AW.idiv X (K_logic_d.d 58 rfl) (by decide) ?_
      rw [iZ_dw (hW.2 (n - 2) (by omega)).1 hw2]
      refine AW.run X K_logic_d 59 2 rfl ?_
      refine AW.idiv X (K_logic_d.d 61 rfl) (by decide) ?_
      rw [iZ_dw (hW.2 (n - 1) (by omega)).1 hw1]
      refine AW.callS (As := [.ref 27, .int (iZ (u (n - 2) / 65536)), .int (iZ (u (n - 1) / 65536))]) X (K_combined27_m S tl (iZ (u (n - 2) / 65536)) (iZ (u (n - 1) / 65536))) cb_K_166 K_combined_st rfl ⟨Nat.le_of_ble_eq_true rfl, Nat.le_of_ble_eq_true rfl⟩ (Nat.le_of_ble_eq_true rfl) ⟨Nat.le_of_ble_eq_true rfl, Nat.le_of_ble_eq_true rfl⟩ (K_logic_d.d 62 rfl) (fun v h' q => ?_)
      obtain ⟨rfl, rfl⟩ := q
      refine AW.callV (As := [.int (nI 2), .int (iZ (u (n - 2) / 65536) &&& iZ (u (n - 1) / 65536))]) X (K_giveWhole_m S tl n 2 u t hW hK (iZ (u (n - 2) / 65536) &&& iZ (u (n - 1) / 65536)) (by omega)) cb_K_148 rfl rfl K_giveWhole_im K_giveWhole_se rfl ⟨Nat.le_of_ble_eq_true rfl, Nat.le_of_ble_eq_true rfl⟩ (Nat.le_of_ble_eq_true rfl) ⟨Nat.le_of_ble_eq_true rfl, Nat.le_of_ble_eq_true rfl⟩ (K_logic_d.d 63 rfl) (fun v h' q => ?_)
      obtain ⟨rfl, q⟩ := q
      exact AW.iret X (K_logic_d.d 64 rfl) (Nat.le_of_ble_eq_true rfl) (Nat.le_of_ble_eq_true rfl) (kp_eq (by rw [pS_27]; unfold plog; rw [if_neg (by omega), if_neg (fun z => by rw [bI_f0 q23] at z; exact Bool.false_ne_true z.1), if_neg (fun z => z hp)]) ⟨rfl, q⟩)
    · refine AW.run X K_logic_d 51 1 rfl ?_
      refine AW.goto X (K_logic_d.d 52 rfl) ?_
      exact AW.iret X (K_logic_d.d 64 rfl) (Nat.le_of_ble_eq_true rfl) (Nat.le_of_ble_eq_true rfl) (kp_e (c := pwh2 n u t) (by rw [pS_27]; unfold plog; rw [if_neg (by omega), if_neg (fun z => by rw [bI_f0 q23] at z; exact Bool.false_ne_true z.1), if_pos (fun z => q50 ((pwh2_c n u t).mpr z))]; rfl) (fun z => q50 ((pwh2_c n u t).mpr z)) rfl)
  · refine AW.run X K_logic_d 24 6 rfl ?_
    refine AW.cl13 (j := n - 1) X (hK.i (k := 1) (by omega)) (by have := hW.1; omega) (K_logic_d.d 30 rfl) ?_
    rw [(hK.2 (n - 1) (by omega)).2]
    refine AW.if_eq X (K_logic_d.d 31 rfl) (fun q31 => ?_) (fun q31 => ?_)
    · refine AW.run X K_logic_d 44 2 rfl ?_
      refine AW.callV (As := [.int (nI 2)]) X (K_faultOfWholes2_m S tl n u t hW hK hn) cb_K_138 rfl rfl K_faultOfWholes_im K_faultOfWholes_se rfl ⟨Nat.le_of_ble_eq_true rfl, Nat.le_of_ble_eq_true rfl⟩ (Nat.le_of_ble_eq_true rfl) ⟨Nat.le_of_ble_eq_true rfl, Nat.le_of_ble_eq_true rfl⟩ (K_logic_d.d 46 rfl) (fun v h' q => ?_)
      obtain ⟨rfl, rfl⟩ := q
      refine AW.run X K_logic_d 47 3 rfl ?_
      refine AW.icmp_eq X (K_logic_d.d 50 rfl) (fun q50 => ?_) (fun q50 => ?_)
      · have hp : pwh2 n u t = -1 := (pwh2_c n u t).mp q50
        obtain ⟨hw2, hw1⟩ := pwh2_w hp
        refine AW.run X K_logic_d 53 5 rfl ?_
        refine AW.idiv X (K_logic_d.d 58 rfl) (by decide) ?_
        rw [iZ_dw (hW.2 (n - 2) (by omega)).1 hw2]
        refine AW.run X K_logic_d 59 2 rfl ?_
        refine AW.idiv X (K_logic_d.d 61 rfl) (by decide) ?_
        rw [iZ_dw (hW.2 (n - 1) (by omega)).1 hw1]
        refine AW.callS (As := [.ref 27, .int (iZ (u (n - 2) / 65536)), .int (iZ (u (n - 1) / 65536))]) X (K_combined27_m S tl (iZ (u (n - 2) / 65536)) (iZ (u (n - 1) / 65536))) cb_K_166 K_combined_st rfl ⟨Nat.le_of_ble_eq_true rfl, Nat.le_of_ble_eq_true rfl⟩ (Nat.le_of_ble_eq_true rfl) ⟨Nat.le_of_ble_eq_true rfl, Nat.le_of_ble_eq_true rfl⟩ (K_logic_d.d 62 rfl) (fun v h' q => ?_)
        obtain ⟨rfl, rfl⟩ := q
        refine AW.callV (As := [.int (nI 2), .int (iZ (u (n - 2) / 65536) &&& iZ (u (n - 1) / 65536))]) X (K_giveWhole_m S tl n 2 u t hW hK (iZ (u (n - 2) / 65536) &&& iZ (u (n - 1) / 65536)) (by omega)) cb_K_148 rfl rfl K_giveWhole_im K_giveWhole_se rfl ⟨Nat.le_of_ble_eq_true rfl, Nat.le_of_ble_eq_true rfl⟩ (Nat.le_of_ble_eq_true rfl) ⟨Nat.le_of_ble_eq_true rfl, Nat.le_of_ble_eq_true rfl⟩ (K_logic_d.d 63 rfl) (fun v h' q => ?_)
        obtain ⟨rfl, q⟩ := q
        exact AW.iret X (K_logic_d.d 64 rfl) (Nat.le_of_ble_eq_true rfl) (Nat.le_of_ble_eq_true rfl) (kp_eq (by rw [pS_27]; unfold plog; rw [if_neg (by omega), if_neg (fun z => by rw [bI_f0 q31] at z; exact Bool.false_ne_true z.2), if_neg (fun z => z hp)]) ⟨rfl, q⟩)
      · refine AW.run X K_logic_d 51 1 rfl ?_
        refine AW.goto X (K_logic_d.d 52 rfl) ?_
        exact AW.iret X (K_logic_d.d 64 rfl) (Nat.le_of_ble_eq_true rfl) (Nat.le_of_ble_eq_true rfl) (kp_e (c := pwh2 n u t) (by rw [pS_27]; unfold plog; rw [if_neg (by omega), if_neg (fun z => by rw [bI_f0 q31] at z; exact Bool.false_ne_true z.2), if_pos (fun z => q50 ((pwh2_c n u t).mpr z))]; rfl) (fun z => q50 ((pwh2_c n u t).mpr z)) rfl)
    · refine AW.run X K_logic_d 32 5 rfl ?_
      refine AW.callS (As := [.ref 27, .int (iZ (u (n - 2))), .int (iZ (u (n - 1)))]) X (K_combined27_m S tl (iZ (u (n - 2))) (iZ (u (n - 1)))) cb_K_166 K_combined_st rfl ⟨Nat.le_of_ble_eq_true rfl, Nat.le_of_ble_eq_true rfl⟩ (Nat.le_of_ble_eq_true rfl) ⟨Nat.le_of_ble_eq_true rfl, Nat.le_of_ble_eq_true rfl⟩ (K_logic_d.d 37 rfl) (fun v h' q => ?_)
      obtain ⟨rfl, rfl⟩ := q
      refine AW.if_eq X (K_logic_d.d 38 rfl) (fun q38 => ?_) (fun q38 => ?_)
      · refine AW.run X K_logic_d 41 1 rfl ?_
        rw [show Int32.ofInt 0 = bI (decide (iZ (u (n - 2)) &&& iZ (u (n - 1)) ≠ 0)) from by rw [decide_eq_false (fun z => z q38)]; rfl]
        refine AW.callV (As := [.int (nI 2), .int (bI (decide (iZ (u (n - 2)) &&& iZ (u (n - 1)) ≠ 0)))]) X (K_giveTruth_m S tl n 2 u t hW hK (decide (iZ (u (n - 2)) &&& iZ (u (n - 1)) ≠ 0)) (by omega)) cb_K_90 rfl rfl K_giveTruth_im K_giveTruth_se rfl ⟨Nat.le_of_ble_eq_true rfl, Nat.le_of_ble_eq_true rfl⟩ (Nat.le_of_ble_eq_true rfl) ⟨Nat.le_of_ble_eq_true rfl, Nat.le_of_ble_eq_true rfl⟩ (K_logic_d.d 42 rfl) (fun v h' q => ?_)
        obtain ⟨rfl, q⟩ := q
        exact AW.iret X (K_logic_d.d 43 rfl) (Nat.le_of_ble_eq_true rfl) (Nat.le_of_ble_eq_true rfl) (kp_eq (by rw [pS_27]; unfold plog; rw [if_neg (by omega), if_pos ⟨Bool.of_not_eq_false (fun z => q23 ((bI_0 _).mpr z)), Bool.of_not_eq_false (fun z => q31 ((bI_0 _).mpr z))⟩]) ⟨rfl, q⟩)
      · refine AW.run X K_logic_d 39 1 rfl ?_
        refine AW.goto X (K_logic_d.d 40 rfl) ?_
        rw [show Int32.ofInt 1 = bI (decide (iZ (u (n - 2)) &&& iZ (u (n - 1)) ≠ 0)) from by rw [decide_eq_true q38]; rfl]
        refine AW.callV (As := [.int (nI 2), .int (bI (decide (iZ (u (n - 2)) &&& iZ (u (n - 1)) ≠ 0)))]) X (K_giveTruth_m S tl n 2 u t hW hK (decide (iZ (u (n - 2)) &&& iZ (u (n - 1)) ≠ 0)) (by omega)) cb_K_90 rfl rfl K_giveTruth_im K_giveTruth_se rfl ⟨Nat.le_of_ble_eq_true rfl, Nat.le_of_ble_eq_true rfl⟩ (Nat.le_of_ble_eq_true rfl) ⟨Nat.le_of_ble_eq_true rfl, Nat.le_of_ble_eq_true rfl⟩ (K_logic_d.d 42 rfl) (fun v h' q => ?_)
        obtain ⟨rfl, q⟩ := q
        exact AW.iret X (K_logic_d.d 43 rfl) (Nat.le_of_ble_eq_true rfl) (Nat.le_of_ble_eq_true rfl) (kp_eq (by rw [pS_27]; unfold plog; rw [if_neg (by omega), if_pos ⟨Bool.of_not_eq_false (fun z => q23 ((bI_0 _).mpr z)), Bool.of_not_eq_false (fun z => q31 ((bI_0 _).mpr z))⟩]) ⟨rfl, q⟩)

set_option maxHeartbeats 4000000 in
set_option maxRecDepth 100000 in
theorem K_logic28_m {l : Launch} {G : ax_G} (S : x_S) (tl : List va_E) (n : Nat) (u : Nat → Int) (t : Nat → Bool) (hW : WS n u t) (hK : KS S n u t) (hn : 2 ≤ n) (num : Int) :
    AM l VV G K_logic_y K_logic_c 5 (some .int) 3 0 0 [.ref 150, .ref 28] (x_hC S tl) (fun v h' => kp S tl (pS 28 num n u t) v h') := by
  refine AM.of (pl := pl_K) (by decide) v_good fl_K_ok kl_K_ok nofun (Nat.le_of_ble_eq_true rfl) ?_
  intro p e s m args below meth c X
  refine AW.run X K_logic_d 0 6 rfl ?_
  refine AW.cl12 (j := n - 2) X (hK.i (k := 2) (by omega)) (by have := hW.1; omega) (K_logic_d.d 6 rfl) ?_
  rw [(hK.2 (n - 2) (by omega)).1]
  refine AW.run X K_logic_d 7 7 rfl ?_
  refine AW.cl12 (j := n - 1) X (hK.i (k := 1) (by omega)) (by have := hW.1; omega) (K_logic_d.d 14 rfl) ?_
  rw [(hK.2 (n - 1) (by omega)).1]
  refine AW.run X K_logic_d 15 7 rfl ?_
  refine AW.cl13 (j := n - 2) X (hK.i (k := 2) (by omega)) (by have := hW.1; omega) (K_logic_d.d 22 rfl) ?_
  rw [(hK.2 (n - 2) (by omega)).2]
  refine AW.if_eq X (K_logic_d.d 23 rfl) (fun q23 => ?_) (fun q23 => ?_)
  · refine AW.run X K_logic_d 44 2 rfl ?_
    refine AW.callV (As := [.int (nI 2)]) X (K_faultOfWholes2_m S tl n u t hW hK hn) cb_K_138 rfl rfl K_faultOfWholes_im K_faultOfWholes_se rfl ⟨Nat.le_of_ble_eq_true rfl, Nat.le_of_ble_eq_true rfl⟩ (Nat.le_of_ble_eq_true rfl) ⟨Nat.le_of_ble_eq_true rfl, Nat.le_of_ble_eq_true rfl⟩ (K_logic_d.d 46 rfl) (fun v h' q => ?_)
    obtain ⟨rfl, rfl⟩ := q
    refine AW.run X K_logic_d 47 3 rfl ?_
    refine AW.icmp_eq X (K_logic_d.d 50 rfl) (fun q50 => ?_) (fun q50 => ?_)
    · have hp : pwh2 n u t = -1 := (pwh2_c n u t).mp q50
      obtain ⟨hw2, hw1⟩ := pwh2_w hp
      refine AW.run X K_logic_d 53 5 rfl ?_
      refine AW.idiv X (K_logic_d.d 58 rfl) (by decide) ?_
      rw [iZ_dw (hW.2 (n - 2) (by omega)).1 hw2]
      refine AW.run X K_logic_d 59 2 rfl ?_
      refine AW.idiv X (K_logic_d.d 61 rfl) (by decide) ?_
      rw [iZ_dw (hW.2 (n - 1) (by omega)).1 hw1]
      refine AW.callS (As := [.ref 28, .int (iZ (u (n - 2) / 65536)), .int (iZ (u (n - 1) / 65536))]) X (K_combined28_m S tl (iZ (u (n - 2) / 65536)) (iZ (u (n - 1) / 65536))) cb_K_166 K_combined_st rfl ⟨Nat.le_of_ble_eq_true rfl, Nat.le_of_ble_eq_true rfl⟩ (Nat.le_of_ble_eq_true rfl) ⟨Nat.le_of_ble_eq_true rfl, Nat.le_of_ble_eq_true rfl⟩ (K_logic_d.d 62 rfl) (fun v h' q => ?_)
      obtain ⟨rfl, rfl⟩ := q
      refine AW.callV (As := [.int (nI 2), .int (iZ (u (n - 2) / 65536) ||| iZ (u (n - 1) / 65536))]) X (K_giveWhole_m S tl n 2 u t hW hK (iZ (u (n - 2) / 65536) ||| iZ (u (n - 1) / 65536)) (by omega)) cb_K_148 rfl rfl K_giveWhole_im K_giveWhole_se rfl ⟨Nat.le_of_ble_eq_true rfl, Nat.le_of_ble_eq_true rfl⟩ (Nat.le_of_ble_eq_true rfl) ⟨Nat.le_of_ble_eq_true rfl, Nat.le_of_ble_eq_true rfl⟩ (K_logic_d.d 63 rfl) (fun v h' q => ?_)
      obtain ⟨rfl, q⟩ := q
      exact AW.iret X (K_logic_d.d 64 rfl) (Nat.le_of_ble_eq_true rfl) (Nat.le_of_ble_eq_true rfl) (kp_eq (by rw [pS_28]; unfold plog; rw [if_neg (by omega), if_neg (fun z => by rw [bI_f0 q23] at z; exact Bool.false_ne_true z.1), if_neg (fun z => z hp)]) ⟨rfl, q⟩)
    · refine AW.run X K_logic_d 51 1 rfl ?_
      refine AW.goto X (K_logic_d.d 52 rfl) ?_
      exact AW.iret X (K_logic_d.d 64 rfl) (Nat.le_of_ble_eq_true rfl) (Nat.le_of_ble_eq_true rfl) (kp_e (c := pwh2 n u t) (by rw [pS_28]; unfold plog; rw [if_neg (by omega), if_neg (fun z => by rw [bI_f0 q23] at z; exact Bool.false_ne_true z.1), if_pos (fun z => q50 ((pwh2_c n u t).mpr z))]; rfl) (fun z => q50 ((pwh2_c n u t).mpr z)) rfl)
  · refine AW.run X K_logic_d 24 6 rfl ?_
    refine AW.cl13 (j := n - 1) X (hK.i (k := 1) (by omega)) (by have := hW.1; omega) (K_logic_d.d 30 rfl) ?_
    rw [(hK.2 (n - 1) (by omega)).2]
    refine AW.if_eq X (K_logic_d.d 31 rfl) (fun q31 => ?_) (fun q31 => ?_)
    · refine AW.run X K_logic_d 44 2 rfl ?_
      refine AW.callV (As := [.int (nI 2)]) X (K_faultOfWholes2_m S tl n u t hW hK hn) cb_K_138 rfl rfl K_faultOfWholes_im K_faultOfWholes_se rfl ⟨Nat.le_of_ble_eq_true rfl, Nat.le_of_ble_eq_true rfl⟩ (Nat.le_of_ble_eq_true rfl) ⟨Nat.le_of_ble_eq_true rfl, Nat.le_of_ble_eq_true rfl⟩ (K_logic_d.d 46 rfl) (fun v h' q => ?_)
      obtain ⟨rfl, rfl⟩ := q
      refine AW.run X K_logic_d 47 3 rfl ?_
      refine AW.icmp_eq X (K_logic_d.d 50 rfl) (fun q50 => ?_) (fun q50 => ?_)
      · have hp : pwh2 n u t = -1 := (pwh2_c n u t).mp q50
        obtain ⟨hw2, hw1⟩ := pwh2_w hp
        refine AW.run X K_logic_d 53 5 rfl ?_
        refine AW.idiv X (K_logic_d.d 58 rfl) (by decide) ?_
        rw [iZ_dw (hW.2 (n - 2) (by omega)).1 hw2]
        refine AW.run X K_logic_d 59 2 rfl ?_
        refine AW.idiv X (K_logic_d.d 61 rfl) (by decide) ?_
        rw [iZ_dw (hW.2 (n - 1) (by omega)).1 hw1]
        refine AW.callS (As := [.ref 28, .int (iZ (u (n - 2) / 65536)), .int (iZ (u (n - 1) / 65536))]) X (K_combined28_m S tl (iZ (u (n - 2) / 65536)) (iZ (u (n - 1) / 65536))) cb_K_166 K_combined_st rfl ⟨Nat.le_of_ble_eq_true rfl, Nat.le_of_ble_eq_true rfl⟩ (Nat.le_of_ble_eq_true rfl) ⟨Nat.le_of_ble_eq_true rfl, Nat.le_of_ble_eq_true rfl⟩ (K_logic_d.d 62 rfl) (fun v h' q => ?_)
        obtain ⟨rfl, rfl⟩ := q
        refine AW.callV (As := [.int (nI 2), .int (iZ (u (n - 2) / 65536) ||| iZ (u (n - 1) / 65536))]) X (K_giveWhole_m S tl n 2 u t hW hK (iZ (u (n - 2) / 65536) ||| iZ (u (n - 1) / 65536)) (by omega)) cb_K_148 rfl rfl K_giveWhole_im K_giveWhole_se rfl ⟨Nat.le_of_ble_eq_true rfl, Nat.le_of_ble_eq_true rfl⟩ (Nat.le_of_ble_eq_true rfl) ⟨Nat.le_of_ble_eq_true rfl, Nat.le_of_ble_eq_true rfl⟩ (K_logic_d.d 63 rfl) (fun v h' q => ?_)
        obtain ⟨rfl, q⟩ := q
        exact AW.iret X (K_logic_d.d 64 rfl) (Nat.le_of_ble_eq_true rfl) (Nat.le_of_ble_eq_true rfl) (kp_eq (by rw [pS_28]; unfold plog; rw [if_neg (by omega), if_neg (fun z => by rw [bI_f0 q31] at z; exact Bool.false_ne_true z.2), if_neg (fun z => z hp)]) ⟨rfl, q⟩)
      · refine AW.run X K_logic_d 51 1 rfl ?_
        refine AW.goto X (K_logic_d.d 52 rfl) ?_
        exact AW.iret X (K_logic_d.d 64 rfl) (Nat.le_of_ble_eq_true rfl) (Nat.le_of_ble_eq_true rfl) (kp_e (c := pwh2 n u t) (by rw [pS_28]; unfold plog; rw [if_neg (by omega), if_neg (fun z => by rw [bI_f0 q31] at z; exact Bool.false_ne_true z.2), if_pos (fun z => q50 ((pwh2_c n u t).mpr z))]; rfl) (fun z => q50 ((pwh2_c n u t).mpr z)) rfl)
    · refine AW.run X K_logic_d 32 5 rfl ?_
      refine AW.callS (As := [.ref 28, .int (iZ (u (n - 2))), .int (iZ (u (n - 1)))]) X (K_combined28_m S tl (iZ (u (n - 2))) (iZ (u (n - 1)))) cb_K_166 K_combined_st rfl ⟨Nat.le_of_ble_eq_true rfl, Nat.le_of_ble_eq_true rfl⟩ (Nat.le_of_ble_eq_true rfl) ⟨Nat.le_of_ble_eq_true rfl, Nat.le_of_ble_eq_true rfl⟩ (K_logic_d.d 37 rfl) (fun v h' q => ?_)
      obtain ⟨rfl, rfl⟩ := q
      refine AW.if_eq X (K_logic_d.d 38 rfl) (fun q38 => ?_) (fun q38 => ?_)
      · refine AW.run X K_logic_d 41 1 rfl ?_
        rw [show Int32.ofInt 0 = bI (decide (iZ (u (n - 2)) ||| iZ (u (n - 1)) ≠ 0)) from by rw [decide_eq_false (fun z => z q38)]; rfl]
        refine AW.callV (As := [.int (nI 2), .int (bI (decide (iZ (u (n - 2)) ||| iZ (u (n - 1)) ≠ 0)))]) X (K_giveTruth_m S tl n 2 u t hW hK (decide (iZ (u (n - 2)) ||| iZ (u (n - 1)) ≠ 0)) (by omega)) cb_K_90 rfl rfl K_giveTruth_im K_giveTruth_se rfl ⟨Nat.le_of_ble_eq_true rfl, Nat.le_of_ble_eq_true rfl⟩ (Nat.le_of_ble_eq_true rfl) ⟨Nat.le_of_ble_eq_true rfl, Nat.le_of_ble_eq_true rfl⟩ (K_logic_d.d 42 rfl) (fun v h' q => ?_)
        obtain ⟨rfl, q⟩ := q
        exact AW.iret X (K_logic_d.d 43 rfl) (Nat.le_of_ble_eq_true rfl) (Nat.le_of_ble_eq_true rfl) (kp_eq (by rw [pS_28]; unfold plog; rw [if_neg (by omega), if_pos ⟨Bool.of_not_eq_false (fun z => q23 ((bI_0 _).mpr z)), Bool.of_not_eq_false (fun z => q31 ((bI_0 _).mpr z))⟩]) ⟨rfl, q⟩)
      · refine AW.run X K_logic_d 39 1 rfl ?_
        refine AW.goto X (K_logic_d.d 40 rfl) ?_
        rw [show Int32.ofInt 1 = bI (decide (iZ (u (n - 2)) ||| iZ (u (n - 1)) ≠ 0)) from by rw [decide_eq_true q38]; rfl]
        refine AW.callV (As := [.int (nI 2), .int (bI (decide (iZ (u (n - 2)) ||| iZ (u (n - 1)) ≠ 0)))]) X (K_giveTruth_m S tl n 2 u t hW hK (decide (iZ (u (n - 2)) ||| iZ (u (n - 1)) ≠ 0)) (by omega)) cb_K_90 rfl rfl K_giveTruth_im K_giveTruth_se rfl ⟨Nat.le_of_ble_eq_true rfl, Nat.le_of_ble_eq_true rfl⟩ (Nat.le_of_ble_eq_true rfl) ⟨Nat.le_of_ble_eq_true rfl, Nat.le_of_ble_eq_true rfl⟩ (K_logic_d.d 42 rfl) (fun v h' q => ?_)
        obtain ⟨rfl, q⟩ := q
        exact AW.iret X (K_logic_d.d 43 rfl) (Nat.le_of_ble_eq_true rfl) (Nat.le_of_ble_eq_true rfl) (kp_eq (by rw [pS_28]; unfold plog; rw [if_neg (by omega), if_pos ⟨Bool.of_not_eq_false (fun z => q23 ((bI_0 _).mpr z)), Bool.of_not_eq_false (fun z => q31 ((bI_0 _).mpr z))⟩]) ⟨rfl, q⟩)

set_option maxHeartbeats 4000000 in
set_option maxRecDepth 100000 in
theorem K_logic29_m {l : Launch} {G : ax_G} (S : x_S) (tl : List va_E) (n : Nat) (u : Nat → Int) (t : Nat → Bool) (hW : WS n u t) (hK : KS S n u t) (hn : 2 ≤ n) (num : Int) :
    AM l VV G K_logic_y K_logic_c 5 (some .int) 3 0 0 [.ref 150, .ref 29] (x_hC S tl) (fun v h' => kp S tl (pS 29 num n u t) v h') := by
  refine AM.of (pl := pl_K) (by decide) v_good fl_K_ok kl_K_ok nofun (Nat.le_of_ble_eq_true rfl) ?_
  intro p e s m args below meth c X
  refine AW.run X K_logic_d 0 6 rfl ?_
  refine AW.cl12 (j := n - 2) X (hK.i (k := 2) (by omega)) (by have := hW.1; omega) (K_logic_d.d 6 rfl) ?_
  rw [(hK.2 (n - 2) (by omega)).1]
  refine AW.run X K_logic_d 7 7 rfl ?_
  refine AW.cl12 (j := n - 1) X (hK.i (k := 1) (by omega)) (by have := hW.1; omega) (K_logic_d.d 14 rfl) ?_
  rw [(hK.2 (n - 1) (by omega)).1]
  refine AW.run X K_logic_d 15 7 rfl ?_
  refine AW.cl13 (j := n - 2) X (hK.i (k := 2) (by omega)) (by have := hW.1; omega) (K_logic_d.d 22 rfl) ?_
  rw [(hK.2 (n - 2) (by omega)).2]
  refine AW.if_eq X (K_logic_d.d 23 rfl) (fun q23 => ?_) (fun q23 => ?_)
  · refine AW.run X K_logic_d 44 2 rfl ?_
    refine AW.callV (As := [.int (nI 2)]) X (K_faultOfWholes2_m S tl n u t hW hK hn) cb_K_138 rfl rfl K_faultOfWholes_im K_faultOfWholes_se rfl ⟨Nat.le_of_ble_eq_true rfl, Nat.le_of_ble_eq_true rfl⟩ (Nat.le_of_ble_eq_true rfl) ⟨Nat.le_of_ble_eq_true rfl, Nat.le_of_ble_eq_true rfl⟩ (K_logic_d.d 46 rfl) (fun v h' q => ?_)
    obtain ⟨rfl, rfl⟩ := q
    refine AW.run X K_logic_d 47 3 rfl ?_
    refine AW.icmp_eq X (K_logic_d.d 50 rfl) (fun q50 => ?_) (fun q50 => ?_)
    · have hp : pwh2 n u t = -1 := (pwh2_c n u t).mp q50
      obtain ⟨hw2, hw1⟩ := pwh2_w hp
      refine AW.run X K_logic_d 53 5 rfl ?_
      refine AW.idiv X (K_logic_d.d 58 rfl) (by decide) ?_
      rw [iZ_dw (hW.2 (n - 2) (by omega)).1 hw2]
      refine AW.run X K_logic_d 59 2 rfl ?_
      refine AW.idiv X (K_logic_d.d 61 rfl) (by decide) ?_
      rw [iZ_dw (hW.2 (n - 1) (by omega)).1 hw1]
      refine AW.callS (As := [.ref 29, .int (iZ (u (n - 2) / 65536)), .int (iZ (u (n - 1) / 65536))]) X (K_combined29_m S tl (iZ (u (n - 2) / 65536)) (iZ (u (n - 1) / 65536))) cb_K_166 K_combined_st rfl ⟨Nat.le_of_ble_eq_true rfl, Nat.le_of_ble_eq_true rfl⟩ (Nat.le_of_ble_eq_true rfl) ⟨Nat.le_of_ble_eq_true rfl, Nat.le_of_ble_eq_true rfl⟩ (K_logic_d.d 62 rfl) (fun v h' q => ?_)
      obtain ⟨rfl, rfl⟩ := q
      refine AW.callV (As := [.int (nI 2), .int (iZ (u (n - 2) / 65536) ^^^ iZ (u (n - 1) / 65536))]) X (K_giveWhole_m S tl n 2 u t hW hK (iZ (u (n - 2) / 65536) ^^^ iZ (u (n - 1) / 65536)) (by omega)) cb_K_148 rfl rfl K_giveWhole_im K_giveWhole_se rfl ⟨Nat.le_of_ble_eq_true rfl, Nat.le_of_ble_eq_true rfl⟩ (Nat.le_of_ble_eq_true rfl) ⟨Nat.le_of_ble_eq_true rfl, Nat.le_of_ble_eq_true rfl⟩ (K_logic_d.d 63 rfl) (fun v h' q => ?_)
      obtain ⟨rfl, q⟩ := q
      exact AW.iret X (K_logic_d.d 64 rfl) (Nat.le_of_ble_eq_true rfl) (Nat.le_of_ble_eq_true rfl) (kp_eq (by rw [pS_29]; unfold plog; rw [if_neg (by omega), if_neg (fun z => by rw [bI_f0 q23] at z; exact Bool.false_ne_true z.1), if_neg (fun z => z hp)]) ⟨rfl, q⟩)
    · refine AW.run X K_logic_d 51 1 rfl ?_
      refine AW.goto X (K_logic_d.d 52 rfl) ?_
      exact AW.iret X (K_logic_d.d 64 rfl) (Nat.le_of_ble_eq_true rfl) (Nat.le_of_ble_eq_true rfl) (kp_e (c := pwh2 n u t) (by rw [pS_29]; unfold plog; rw [if_neg (by omega), if_neg (fun z => by rw [bI_f0 q23] at z; exact Bool.false_ne_true z.1), if_pos (fun z => q50 ((pwh2_c n u t).mpr z))]; rfl) (fun z => q50 ((pwh2_c n u t).mpr z)) rfl)
  · refine AW.run X K_logic_d 24 6 rfl ?_
    refine AW.cl13 (j := n - 1) X (hK.i (k := 1) (by omega)) (by have := hW.1; omega) (K_logic_d.d 30 rfl) ?_
    rw [(hK.2 (n - 1) (by omega)).2]
    refine AW.if_eq X (K_logic_d.d 31 rfl) (fun q31 => ?_) (fun q31 => ?_)
    · refine AW.run X K_logic_d 44 2 rfl ?_
      refine AW.callV (As := [.int (nI 2)]) X (K_faultOfWholes2_m S tl n u t hW hK hn) cb_K_138 rfl rfl K_faultOfWholes_im K_faultOfWholes_se rfl ⟨Nat.le_of_ble_eq_true rfl, Nat.le_of_ble_eq_true rfl⟩ (Nat.le_of_ble_eq_true rfl) ⟨Nat.le_of_ble_eq_true rfl, Nat.le_of_ble_eq_true rfl⟩ (K_logic_d.d 46 rfl) (fun v h' q => ?_)
      obtain ⟨rfl, rfl⟩ := q
      refine AW.run X K_logic_d 47 3 rfl ?_
      refine AW.icmp_eq X (K_logic_d.d 50 rfl) (fun q50 => ?_) (fun q50 => ?_)
      · have hp : pwh2 n u t = -1 := (pwh2_c n u t).mp q50
        obtain ⟨hw2, hw1⟩ := pwh2_w hp
        refine AW.run X K_logic_d 53 5 rfl ?_
        refine AW.idiv X (K_logic_d.d 58 rfl) (by decide) ?_
        rw [iZ_dw (hW.2 (n - 2) (by omega)).1 hw2]
        refine AW.run X K_logic_d 59 2 rfl ?_
        refine AW.idiv X (K_logic_d.d 61 rfl) (by decide) ?_
        rw [iZ_dw (hW.2 (n - 1) (by omega)).1 hw1]
        refine AW.callS (As := [.ref 29, .int (iZ (u (n - 2) / 65536)), .int (iZ (u (n - 1) / 65536))]) X (K_combined29_m S tl (iZ (u (n - 2) / 65536)) (iZ (u (n - 1) / 65536))) cb_K_166 K_combined_st rfl ⟨Nat.le_of_ble_eq_true rfl, Nat.le_of_ble_eq_true rfl⟩ (Nat.le_of_ble_eq_true rfl) ⟨Nat.le_of_ble_eq_true rfl, Nat.le_of_ble_eq_true rfl⟩ (K_logic_d.d 62 rfl) (fun v h' q => ?_)
        obtain ⟨rfl, rfl⟩ := q
        refine AW.callV (As := [.int (nI 2), .int (iZ (u (n - 2) / 65536) ^^^ iZ (u (n - 1) / 65536))]) X (K_giveWhole_m S tl n 2 u t hW hK (iZ (u (n - 2) / 65536) ^^^ iZ (u (n - 1) / 65536)) (by omega)) cb_K_148 rfl rfl K_giveWhole_im K_giveWhole_se rfl ⟨Nat.le_of_ble_eq_true rfl, Nat.le_of_ble_eq_true rfl⟩ (Nat.le_of_ble_eq_true rfl) ⟨Nat.le_of_ble_eq_true rfl, Nat.le_of_ble_eq_true rfl⟩ (K_logic_d.d 63 rfl) (fun v h' q => ?_)
        obtain ⟨rfl, q⟩ := q
        exact AW.iret X (K_logic_d.d 64 rfl) (Nat.le_of_ble_eq_true rfl) (Nat.le_of_ble_eq_true rfl) (kp_eq (by rw [pS_29]; unfold plog; rw [if_neg (by omega), if_neg (fun z => by rw [bI_f0 q31] at z; exact Bool.false_ne_true z.2), if_neg (fun z => z hp)]) ⟨rfl, q⟩)
      · refine AW.run X K_logic_d 51 1 rfl ?_
        refine AW.goto X (K_logic_d.d 52 rfl) ?_
        exact AW.iret X (K_logic_d.d 64 rfl) (Nat.le_of_ble_eq_true rfl) (Nat.le_of_ble_eq_true rfl) (kp_e (c := pwh2 n u t) (by rw [pS_29]; unfold plog; rw [if_neg (by omega), if_neg (fun z => by rw [bI_f0 q31] at z; exact Bool.false_ne_true z.2), if_pos (fun z => q50 ((pwh2_c n u t).mpr z))]; rfl) (fun z => q50 ((pwh2_c n u t).mpr z)) rfl)
    · refine AW.run X K_logic_d 32 5 rfl ?_
      refine AW.callS (As := [.ref 29, .int (iZ (u (n - 2))), .int (iZ (u (n - 1)))]) X (K_combined29_m S tl (iZ (u (n - 2))) (iZ (u (n - 1)))) cb_K_166 K_combined_st rfl ⟨Nat.le_of_ble_eq_true rfl, Nat.le_of_ble_eq_true rfl⟩ (Nat.le_of_ble_eq_true rfl) ⟨Nat.le_of_ble_eq_true rfl, Nat.le_of_ble_eq_true rfl⟩ (K_logic_d.d 37 rfl) (fun v h' q => ?_)
      obtain ⟨rfl, rfl⟩ := q
      refine AW.if_eq X (K_logic_d.d 38 rfl) (fun q38 => ?_) (fun q38 => ?_)
      · refine AW.run X K_logic_d 41 1 rfl ?_
        rw [show Int32.ofInt 0 = bI (decide (iZ (u (n - 2)) ^^^ iZ (u (n - 1)) ≠ 0)) from by rw [decide_eq_false (fun z => z q38)]; rfl]
        refine AW.callV (As := [.int (nI 2), .int (bI (decide (iZ (u (n - 2)) ^^^ iZ (u (n - 1)) ≠ 0)))]) X (K_giveTruth_m S tl n 2 u t hW hK (decide (iZ (u (n - 2)) ^^^ iZ (u (n - 1)) ≠ 0)) (by omega)) cb_K_90 rfl rfl K_giveTruth_im K_giveTruth_se rfl ⟨Nat.le_of_ble_eq_true rfl, Nat.le_of_ble_eq_true rfl⟩ (Nat.le_of_ble_eq_true rfl) ⟨Nat.le_of_ble_eq_true rfl, Nat.le_of_ble_eq_true rfl⟩ (K_logic_d.d 42 rfl) (fun v h' q => ?_)
        obtain ⟨rfl, q⟩ := q
        exact AW.iret X (K_logic_d.d 43 rfl) (Nat.le_of_ble_eq_true rfl) (Nat.le_of_ble_eq_true rfl) (kp_eq (by rw [pS_29]; unfold plog; rw [if_neg (by omega), if_pos ⟨Bool.of_not_eq_false (fun z => q23 ((bI_0 _).mpr z)), Bool.of_not_eq_false (fun z => q31 ((bI_0 _).mpr z))⟩]) ⟨rfl, q⟩)
      · refine AW.run X K_logic_d 39 1 rfl ?_
        refine AW.goto X (K_logic_d.d 40 rfl) ?_
        rw [show Int32.ofInt 1 = bI (decide (iZ (u (n - 2)) ^^^ iZ (u (n - 1)) ≠ 0)) from by rw [decide_eq_true q38]; rfl]
        refine AW.callV (As := [.int (nI 2), .int (bI (decide (iZ (u (n - 2)) ^^^ iZ (u (n - 1)) ≠ 0)))]) X (K_giveTruth_m S tl n 2 u t hW hK (decide (iZ (u (n - 2)) ^^^ iZ (u (n - 1)) ≠ 0)) (by omega)) cb_K_90 rfl rfl K_giveTruth_im K_giveTruth_se rfl ⟨Nat.le_of_ble_eq_true rfl, Nat.le_of_ble_eq_true rfl⟩ (Nat.le_of_ble_eq_true rfl) ⟨Nat.le_of_ble_eq_true rfl, Nat.le_of_ble_eq_true rfl⟩ (K_logic_d.d 42 rfl) (fun v h' q => ?_)
        obtain ⟨rfl, q⟩ := q
        exact AW.iret X (K_logic_d.d 43 rfl) (Nat.le_of_ble_eq_true rfl) (Nat.le_of_ble_eq_true rfl) (kp_eq (by rw [pS_29]; unfold plog; rw [if_neg (by omega), if_pos ⟨Bool.of_not_eq_false (fun z => q23 ((bI_0 _).mpr z)), Bool.of_not_eq_false (fun z => q31 ((bI_0 _).mpr z))⟩]) ⟨rfl, q⟩)

set_option maxHeartbeats 4000000 in
set_option maxRecDepth 100000 in
theorem K_negation_m {l : Launch} {G : ax_G} (S : x_S) (tl : List va_E) (n : Nat) (u : Nat → Int) (t : Nat → Bool) (hW : WS n u t) (hK : KS S n u t) (hn : 1 ≤ n) (num : Int) :
    AM l VV G K_negation_y K_negation_c 3 (some .int) 3 0 0 [.ref 150] (x_hC S tl) (fun v h' => kp S tl (pS 30 num n u t) v h') := by
  refine AM.of (pl := pl_K) (by decide) v_good fl_K_ok kl_K_ok nofun (Nat.le_of_ble_eq_true rfl) ?_
  intro p e s m args below meth c X
  refine AW.run X K_negation_d 0 6 rfl ?_
  refine AW.cl12 (j := n - 1) X (hK.i (k := 1) (by omega)) (by have := hW.1; omega) (K_negation_d.d 6 rfl) ?_
  rw [(hK.2 (n - 1) (by omega)).1]
  refine AW.run X K_negation_d 7 7 rfl ?_
  refine AW.cl13 (j := n - 1) X (hK.i (k := 1) (by omega)) (by have := hW.1; omega) (K_negation_d.d 14 rfl) ?_
  rw [(hK.2 (n - 1) (by omega)).2]
  refine AW.if_eq X (K_negation_d.d 15 rfl) (fun q15 => ?_) (fun q15 => ?_)
  · refine AW.run X K_negation_d 25 2 rfl ?_
    refine AW.callV (As := [.int (nI 1)]) X (K_faultOfWholes1_m S tl n u t hW hK hn) cb_K_138 rfl rfl K_faultOfWholes_im K_faultOfWholes_se rfl ⟨Nat.le_of_ble_eq_true rfl, Nat.le_of_ble_eq_true rfl⟩ (Nat.le_of_ble_eq_true rfl) ⟨Nat.le_of_ble_eq_true rfl, Nat.le_of_ble_eq_true rfl⟩ (K_negation_d.d 27 rfl) (fun v h' q => ?_)
    obtain ⟨rfl, rfl⟩ := q
    refine AW.run X K_negation_d 28 3 rfl ?_
    refine AW.icmp_eq X (K_negation_d.d 31 rfl) (fun q31 => ?_) (fun q31 => ?_)
    · have hp : pwh1 n u t = -1 := (pwh1_c n u t).mp q31
      have hw1 := pwh1_w hp
      refine AW.run X K_negation_d 34 4 rfl ?_
      refine AW.idiv X (K_negation_d.d 38 rfl) (by decide) ?_
      rw [iZ_dw (hW.2 (n - 1) (by omega)).1 hw1]
      refine AW.run X K_negation_d 39 2 rfl ?_
      rw [zxor (zN_q (hW.2 (n - 1) (by omega)).1)]
      refine AW.callV (As := [.int (nI 1), .int (iZ (-1 - u (n - 1) / 65536))]) X (K_giveWhole_m S tl n 1 u t hW hK (iZ (-1 - u (n - 1) / 65536)) (by omega)) cb_K_148 rfl rfl K_giveWhole_im K_giveWhole_se rfl ⟨Nat.le_of_ble_eq_true rfl, Nat.le_of_ble_eq_true rfl⟩ (Nat.le_of_ble_eq_true rfl) ⟨Nat.le_of_ble_eq_true rfl, Nat.le_of_ble_eq_true rfl⟩ (K_negation_d.d 41 rfl) (fun v h' q => ?_)
      obtain ⟨rfl, q⟩ := q
      exact AW.iret X (K_negation_d.d 42 rfl) (Nat.le_of_ble_eq_true rfl) (Nat.le_of_ble_eq_true rfl) (kp_eq (by rw [pS_30]; unfold pnot; rw [if_neg (by omega), if_neg (by rw [bI_f0 q15]; decide), if_neg (fun z => z hp), iZ_t (by have := (zN_q (hW.2 (n - 1) (by omega)).1); exact ⟨by omega, by omega⟩)]) ⟨rfl, q⟩)
    · refine AW.run X K_negation_d 32 1 rfl ?_
      refine AW.goto X (K_negation_d.d 33 rfl) ?_
      exact AW.iret X (K_negation_d.d 42 rfl) (Nat.le_of_ble_eq_true rfl) (Nat.le_of_ble_eq_true rfl) (kp_e (c := pwh1 n u t) (by rw [pS_30]; unfold pnot; rw [if_neg (by omega), if_neg (by rw [bI_f0 q15]; decide), if_pos (fun z => q31 ((pwh1_c n u t).mpr z))]; rfl) (fun z => q31 ((pwh1_c n u t).mpr z)) rfl)
  · refine AW.run X K_negation_d 16 3 rfl ?_
    refine AW.if_ne X (K_negation_d.d 19 rfl) (fun q19 => ?_) (fun q19 => ?_)
    · refine AW.run X K_negation_d 22 1 rfl ?_
      rw [show Int32.ofInt 0 = bI (decide (u (n - 1) = 0)) from by rw [decide_eq_false (fun z => q19 (by rw [z]; rfl))]; rfl]
      refine AW.callV (As := [.int (nI 1), .int (bI (decide (u (n - 1) = 0)))]) X (K_giveTruth_m S tl n 1 u t hW hK (decide (u (n - 1) = 0)) (by omega)) cb_K_90 rfl rfl K_giveTruth_im K_giveTruth_se rfl ⟨Nat.le_of_ble_eq_true rfl, Nat.le_of_ble_eq_true rfl⟩ (Nat.le_of_ble_eq_true rfl) ⟨Nat.le_of_ble_eq_true rfl, Nat.le_of_ble_eq_true rfl⟩ (K_negation_d.d 23 rfl) (fun v h' q => ?_)
      obtain ⟨rfl, q⟩ := q
      exact AW.iret X (K_negation_d.d 24 rfl) (Nat.le_of_ble_eq_true rfl) (Nat.le_of_ble_eq_true rfl) (kp_eq (by rw [pS_30]; unfold pnot; rw [if_neg (by omega), if_pos (Bool.of_not_eq_false (fun z => q15 ((bI_0 _).mpr z)))]) ⟨rfl, q⟩)
    · refine AW.run X K_negation_d 20 1 rfl ?_
      refine AW.goto X (K_negation_d.d 21 rfl) ?_
      refine AW.callV (As := [.int (nI 1), .int (bI (true))]) X (K_giveTruth_m S tl n 1 u t hW hK (true) (by omega)) cb_K_90 rfl rfl K_giveTruth_im K_giveTruth_se rfl ⟨Nat.le_of_ble_eq_true rfl, Nat.le_of_ble_eq_true rfl⟩ (Nat.le_of_ble_eq_true rfl) ⟨Nat.le_of_ble_eq_true rfl, Nat.le_of_ble_eq_true rfl⟩ (K_negation_d.d 23 rfl) (fun v h' q => ?_)
      obtain ⟨rfl, q⟩ := q
      exact AW.iret X (K_negation_d.d 24 rfl) (Nat.le_of_ble_eq_true rfl) (Nat.le_of_ble_eq_true rfl) (kp_eq (by rw [pS_30]; unfold pnot; rw [if_neg (by omega), if_pos (Bool.of_not_eq_false (fun z => q15 ((bI_0 _).mpr z))), decide_eq_true ((iZ_eq (b := 0) (zN_I (hW.2 (n - 1) (by omega)).1) ⟨by decide, by decide⟩).mp q19)]) ⟨rfl, q⟩)

