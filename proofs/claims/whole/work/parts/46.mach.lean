/-! the class's machine -/
set_option maxHeartbeats 4000000 in
set_option maxRecDepth 100000 in
theorem JEnum_ordinal_m {l : Launch} {G : ax_G} {h : List va_E} (w : Nat) (hw : w < 39) (hh : ∀ w, w < 39 → ∃ fs, h[w]? = some (.inr (13, fs)) ∧ fs[3]? = some (.int (nI w))) :
    AM l VV G JEnum_ordinal_y JEnum_ordinal_c 1 (some .int) 0 0 0 [.ref w] (h) (fun v h' => v = some (.int (nI w)) ∧ h' = h) := by
  refine AM.ofF (pl := pl_JEnum) JEnum_ordinal_pf v_good fl_JEnum_ok kl_JEnum_ok nofun (Nat.le_of_ble_eq_true rfl) ?_
  intro p e s m args below meth c X
  obtain ⟨fs, h1, h2⟩ := hh w hw
  refine AW.run X JEnum_ordinal_d 0 1 rfl ?_
  refine AW.get X h1 rfl h2 (JEnum_ordinal_d.d 1 rfl) ?_
  exact AW.iret X (JEnum_ordinal_d.d 2 rfl) (Nat.le_of_ble_eq_true rfl) (Nat.le_of_ble_eq_true rfl) ⟨rfl, rfl⟩

theorem x_at (S : x_S) (tl : List va_E) {k : Nat} (hk : k < 132) : (x_hC S tl)[k]? = v_cst[k]? := by
  unfold x_hC
  have h1 := v_len
  generalize v_cst = A at *
  rw [List.getElem?_append_left (by omega)]
theorem v_w : ∀ w, w < 39 → ∃ fs, v_cst[w]? = some (.inr (13, fs)) ∧ fs[3]? = some (.int (nI w)) := by
  intro w hw
  have h : w = 0 ∨ w = 1 ∨ w = 2 ∨ w = 3 ∨ w = 4 ∨ w = 5 ∨ w = 6 ∨ w = 7 ∨ w = 8 ∨ w = 9 ∨ w = 10 ∨ w = 11 ∨ w = 12 ∨ w = 13 ∨ w = 14 ∨ w = 15 ∨ w = 16 ∨ w = 17 ∨ w = 18 ∨ w = 19 ∨ w = 20 ∨ w = 21 ∨ w = 22 ∨ w = 23 ∨ w = 24 ∨ w = 25 ∨ w = 26 ∨ w = 27 ∨ w = 28 ∨ w = 29 ∨ w = 30 ∨ w = 31 ∨ w = 32 ∨ w = 33 ∨ w = 34 ∨ w = 35 ∨ w = 36 ∨ w = 37 ∨ w = 38 := by omega
  rcases h with rfl | rfl | rfl | rfl | rfl | rfl | rfl | rfl | rfl | rfl | rfl | rfl | rfl | rfl | rfl | rfl | rfl | rfl | rfl | rfl | rfl | rfl | rfl | rfl | rfl | rfl | rfl | rfl | rfl | rfl | rfl | rfl | rfl | rfl | rfl | rfl | rfl | rfl | rfl <;> exact ⟨_, rfl, rfl⟩
theorem x_w (S : x_S) (tl : List va_E) : ∀ w, w < 39 → ∃ fs, (x_hC S tl)[w]? = some (.inr (13, fs)) ∧ fs[3]? = some (.int (nI w)) := fun w hw => by rw [x_at S tl (by omega)]; exact v_w w hw
def hw_O (h : List va_E) : Prop := ∀ w, w < 39 → ∃ fs, h[w]? = some (.inr (13, fs)) ∧ fs[3]? = some (.int (nI w))
theorem bI_inj {a b : Bool} : bI a = bI b ↔ a = b := by cases a <;> cases b <;> decide
set_option maxHeartbeats 4000000 in
set_option maxRecDepth 100000 in
theorem K_give_m {l : Launch} {G : ax_G} (S : x_S) (tl : List va_E) (n k : Nat) (u : Nat → Int) (t : Nat → Bool) (hW : WS n u t) (hK : KS S n u t) (x : Int) (b : Bool) (hk : k ≤ n) (hx : zL x) :
    AM l VV G K_give_y K_give_c 6 (some .int) 1 0 0 [.ref 150, .int (nI k), .long (lZ x), .int (bI b)] (x_hC S tl) (fun v h' => kp S tl (pgive n u t k x b) v h') := by
  refine AM.of (pl := pl_K) (by decide) v_good fl_K_ok kl_K_ok nofun (Nat.le_of_ble_eq_true rfl) ?_
  intro p e s m args below meth c X
  refine AW.run X K_give_d 0 4 rfl ?_
  rw [hK.i hk]
  have hn60 := hW.1
  refine AW.run X K_give_d 4 2 rfl ?_
  refine AW.if_ge X (K_give_d.d 6 rfl) (fun q6 => ?_) (fun q6 => absurd (nI_pos' (n := n - k) (by omega)) q6)
  refine AW.run X K_give_d 9 2 rfl ?_
  refine AW.icmp_lt X (K_give_d.d 11 rfl) (fun q11 => ?_) (fun q11 => ?_)
  · refine AW.run X K_give_d 14 4 rfl ?_
    refine AW.callS (As := [.long (lZ x)]) X (B_number_m x hx) cb_K_74 B_number_st rfl ⟨Nat.le_of_ble_eq_true rfl, Nat.le_of_ble_eq_true rfl⟩ (Nat.le_of_ble_eq_true rfl) ⟨Nat.le_of_ble_eq_true rfl, Nat.le_of_ble_eq_true rfl⟩ (K_give_d.d 18 rfl) (fun v h' q => ?_)
    obtain ⟨rfl, rfl⟩ := q
    refine AW.cs12 (j := n - k) X rfl ((nI_ltI (a := n - k) (b := 60) (by omega) (by decide)).mp q11) (K_give_d.d 19 rfl) ?_
    refine AW.run X K_give_d 20 4 rfl ?_
    refine AW.cs13 (j := n - k) X rfl ((nI_ltI (a := n - k) (b := 60) (by omega) (by decide)).mp q11) (K_give_d.d 24 rfl) ?_
    refine AW.run X K_give_d 25 4 rfl ?_
    refine AW.cp9 X (K_give_d.d 29 rfl) ?_
    refine AW.run X K_give_d 30 1 rfl ?_
    exact AW.iret X (K_give_d.d 31 rfl) (Nat.le_of_ble_eq_true rfl) (Nat.le_of_ble_eq_true rfl) (by
      have hlt : n - k < 60 := (nI_ltI (a := n - k) (b := 60) (by omega) (by decide)).mp q11
      refine ⟨by unfold pgive; rw [if_neg (by omega)]; rfl, _, rfl, ((KF.v _ _ _).trans (KF.t _ _ _)).trans (KF.i _ _), fun _ => ?_⟩
      unfold pgive
      rw [if_neg (by omega)]
      exact KS.give hK hk)
  · refine AW.run X K_give_d 12 1 rfl ?_
    exact AW.iret X (K_give_d.d 13 rfl) (Nat.le_of_ble_eq_true rfl) (Nat.le_of_ble_eq_true rfl) (by
      have hge : 60 ≤ n - k := Nat.not_lt.mp fun z => q11 ((nI_ltI (a := n - k) (b := 60) (by omega) (by decide)).mpr z)
      exact kp_e (c := 8) (by unfold pgive; rw [if_pos hge]) (by decide) rfl)

set_option maxHeartbeats 4000000 in
set_option maxRecDepth 100000 in
theorem K_giveTruth_m {l : Launch} {G : ax_G} (S : x_S) (tl : List va_E) (n k : Nat) (u : Nat → Int) (t : Nat → Bool) (hW : WS n u t) (hK : KS S n u t) (b : Bool) (hk : k ≤ n) :
    AM l VV G K_giveTruth_y K_giveTruth_c 3 (some .int) 2 0 0 [.ref 150, .int (nI k), .int (bI b)] (x_hC S tl) (fun v h' => kp S tl (pgT n u t k b) v h') := by
  refine AM.of (pl := pl_K) (by decide) v_good fl_K_ok kl_K_ok nofun (Nat.le_of_ble_eq_true rfl) ?_
  intro p e s m args below meth c X
  refine AW.run X K_giveTruth_d 0 3 rfl ?_
  refine AW.if_eq X (K_giveTruth_d.d 3 rfl) (fun q3 => ?_) (fun q3 => ?_)
  · refine AW.run X K_giveTruth_d 6 2 rfl ?_
    refine AW.callV (As := [.int (nI k), .long (lZ 0), .int (bI true)]) X (K_give_m S tl n k u t hW hK 0 true hk ⟨by decide, by decide⟩) cb_K_80 rfl rfl K_give_im K_give_se rfl ⟨Nat.le_of_ble_eq_true rfl, Nat.le_of_ble_eq_true rfl⟩ (Nat.le_of_ble_eq_true rfl) ⟨Nat.le_of_ble_eq_true rfl, Nat.le_of_ble_eq_true rfl⟩ (K_giveTruth_d.d 8 rfl) (fun v h' q => ?_)
    obtain ⟨rfl, q⟩ := q
    exact AW.iret X (K_giveTruth_d.d 9 rfl) (Nat.le_of_ble_eq_true rfl) (Nat.le_of_ble_eq_true rfl) (by have e := (bI_0 b).mp q3; subst e; exact ⟨rfl, q⟩)
  · refine AW.run X K_giveTruth_d 4 1 rfl ?_
    refine AW.goto X (K_giveTruth_d.d 5 rfl) ?_
    refine AW.run X K_giveTruth_d 7 1 rfl ?_
    refine AW.callV (As := [.int (nI k), .long (lZ 1), .int (bI true)]) X (K_give_m S tl n k u t hW hK 1 true hk ⟨by decide, by decide⟩) cb_K_80 rfl rfl K_give_im K_give_se rfl ⟨Nat.le_of_ble_eq_true rfl, Nat.le_of_ble_eq_true rfl⟩ (Nat.le_of_ble_eq_true rfl) ⟨Nat.le_of_ble_eq_true rfl, Nat.le_of_ble_eq_true rfl⟩ (K_giveTruth_d.d 8 rfl) (fun v h' q => ?_)
    obtain ⟨rfl, q⟩ := q
    exact AW.iret X (K_giveTruth_d.d 9 rfl) (Nat.le_of_ble_eq_true rfl) (Nat.le_of_ble_eq_true rfl) (by cases b with
      | false => exact absurd rfl q3
      | true => exact ⟨rfl, q⟩)

set_option maxHeartbeats 4000000 in
set_option maxRecDepth 100000 in
theorem K_giveWhole_m {l : Launch} {G : ax_G} (S : x_S) (tl : List va_E) (n k : Nat) (u : Nat → Int) (t : Nat → Bool) (hW : WS n u t) (hK : KS S n u t) (x : Int32) (hk : k ≤ n) :
    AM l VV G K_giveWhole_y K_giveWhole_c 3 (some .int) 2 0 0 [.ref 150, .int (nI k), .int x] (x_hC S tl) (fun v h' => kp S tl (pgive n u t k (x.toInt * 65536) false) v h') := by
  refine AM.of (pl := pl_K) (by decide) v_good fl_K_ok kl_K_ok nofun (Nat.le_of_ble_eq_true rfl) ?_
  intro p e s m args below meth c X
  refine AW.run X K_giveWhole_d 0 7 rfl ?_
  rw [i_l, show (65536 : Int64) = lZ 65536 from rfl, lZ_mul]
  refine AW.callV (As := [.int (nI k), .long (lZ (x.toInt * 65536)), .int (bI false)]) X (K_give_m S tl n k u t hW hK (x.toInt * 65536) false hk ⟨by have := (zI_i x).1; omega, by have := (zI_i x).2; omega⟩) cb_K_80 rfl rfl K_give_im K_give_se rfl ⟨Nat.le_of_ble_eq_true rfl, Nat.le_of_ble_eq_true rfl⟩ (Nat.le_of_ble_eq_true rfl) ⟨Nat.le_of_ble_eq_true rfl, Nat.le_of_ble_eq_true rfl⟩ (K_giveWhole_d.d 7 rfl) (fun v h' q => ?_)
  obtain ⟨rfl, q⟩ := q
  exact AW.iret X (K_giveWhole_d.d 8 rfl) (Nat.le_of_ble_eq_true rfl) (Nat.le_of_ble_eq_true rfl) ⟨rfl, q⟩

set_option maxHeartbeats 4000000 in
set_option maxRecDepth 100000 in
theorem K_constant2_m {l : Launch} {G : ax_G} (S : x_S) (tl : List va_E) (n : Nat) (u : Nat → Int) (t : Nat → Bool) (hW : WS n u t) (hK : KS S n u t) (x : Int) (hx : zI x) :
    AM l VV G K_constant_y K_constant_c 3 (some .int) 3 0 0 [.ref 150, .ref 2, .int (iZ x)] (x_hC S tl) (fun v h' => kp S tl (pgive n u t 0 x false) v h') := by
  refine AM.of (pl := pl_K) (by decide) v_good fl_K_ok kl_K_ok nofun (Nat.le_of_ble_eq_true rfl) ?_
  intro p e s m args below meth c X
  refine AW.run X K_constant_d 0 1 rfl ?_
  refine AW.gets X gs_K_84.1 gs_K_84.2 (K_constant_d.d 1 rfl) ?_
  refine AW.acmp_ne X (some 2) (some 2) (Or.inl (by decide)) (Or.inl (by decide)) (K_constant_d.d 2 rfl) (fun q => absurd rfl q) (fun q => ?_)
  refine AW.run X K_constant_d 3 5 rfl ?_
  rw [iZ_l hx]
  refine AW.callV (As := [.int (nI 0), .long (lZ (x)), .int (bI (false))]) X (K_give_m S tl n 0 u t hW hK (x) false (by omega) ⟨by have := hx.1; omega, by have := hx.2; omega⟩) cb_K_80 rfl rfl K_give_im K_give_se rfl ⟨Nat.le_of_ble_eq_true rfl, Nat.le_of_ble_eq_true rfl⟩ (Nat.le_of_ble_eq_true rfl) ⟨Nat.le_of_ble_eq_true rfl, Nat.le_of_ble_eq_true rfl⟩ (K_constant_d.d 8 rfl) (fun v h' q => ?_)
  obtain ⟨rfl, q⟩ := q
  refine AW.goto X (K_constant_d.d 9 rfl) ?_
  exact AW.iret X (K_constant_d.d 19 rfl) (Nat.le_of_ble_eq_true rfl) (Nat.le_of_ble_eq_true rfl) ⟨rfl, q⟩

set_option maxHeartbeats 4000000 in
set_option maxRecDepth 100000 in
theorem K_constant3_m {l : Launch} {G : ax_G} (S : x_S) (tl : List va_E) (n : Nat) (u : Nat → Int) (t : Nat → Bool) (hW : WS n u t) (hK : KS S n u t) (x : Int32) :
    AM l VV G K_constant_y K_constant_c 3 (some .int) 3 0 0 [.ref 150, .ref 3, .int x] (x_hC S tl) (fun v h' => kp S tl (pgT n u t 0 true) v h') := by
  refine AM.of (pl := pl_K) (by decide) v_good fl_K_ok kl_K_ok nofun (Nat.le_of_ble_eq_true rfl) ?_
  intro p e s m args below meth c X
  refine AW.run X K_constant_d 0 1 rfl ?_
  refine AW.gets X gs_K_84.1 gs_K_84.2 (K_constant_d.d 1 rfl) ?_
  refine AW.acmp_ne X (some 3) (some 2) (Or.inl (by decide)) (Or.inl (by decide)) (K_constant_d.d 2 rfl) (fun q => ?_) (fun q => absurd q (by decide))
  refine AW.run X K_constant_d 10 3 rfl ?_
  refine AW.gets X gs_K_87.1 gs_K_87.2 (K_constant_d.d 13 rfl) ?_
  refine AW.acmp_ne X (some 3) (some 3) (Or.inl (by decide)) (Or.inl (by decide)) (K_constant_d.d 14 rfl) (fun q => absurd rfl q) (fun q => ?_)
  refine AW.run X K_constant_d 15 1 rfl ?_
  refine AW.goto X (K_constant_d.d 16 rfl) ?_
  refine AW.callV (As := [.int (nI 0), .int (bI (true))]) X (K_giveTruth_m S tl n 0 u t hW hK (true) (by omega)) cb_K_90 rfl rfl K_giveTruth_im K_giveTruth_se rfl ⟨Nat.le_of_ble_eq_true rfl, Nat.le_of_ble_eq_true rfl⟩ (Nat.le_of_ble_eq_true rfl) ⟨Nat.le_of_ble_eq_true rfl, Nat.le_of_ble_eq_true rfl⟩ (K_constant_d.d 18 rfl) (fun v h' q => ?_)
  obtain ⟨rfl, q⟩ := q
  exact AW.iret X (K_constant_d.d 19 rfl) (Nat.le_of_ble_eq_true rfl) (Nat.le_of_ble_eq_true rfl) ⟨rfl, q⟩

set_option maxHeartbeats 4000000 in
set_option maxRecDepth 100000 in
theorem K_constant4_m {l : Launch} {G : ax_G} (S : x_S) (tl : List va_E) (n : Nat) (u : Nat → Int) (t : Nat → Bool) (hW : WS n u t) (hK : KS S n u t) (x : Int32) :
    AM l VV G K_constant_y K_constant_c 3 (some .int) 3 0 0 [.ref 150, .ref 4, .int x] (x_hC S tl) (fun v h' => kp S tl (pgT n u t 0 false) v h') := by
  refine AM.of (pl := pl_K) (by decide) v_good fl_K_ok kl_K_ok nofun (Nat.le_of_ble_eq_true rfl) ?_
  intro p e s m args below meth c X
  refine AW.run X K_constant_d 0 1 rfl ?_
  refine AW.gets X gs_K_84.1 gs_K_84.2 (K_constant_d.d 1 rfl) ?_
  refine AW.acmp_ne X (some 4) (some 2) (Or.inl (by decide)) (Or.inl (by decide)) (K_constant_d.d 2 rfl) (fun q => ?_) (fun q => absurd q (by decide))
  refine AW.run X K_constant_d 10 3 rfl ?_
  refine AW.gets X gs_K_87.1 gs_K_87.2 (K_constant_d.d 13 rfl) ?_
  refine AW.acmp_ne X (some 4) (some 3) (Or.inl (by decide)) (Or.inl (by decide)) (K_constant_d.d 14 rfl) (fun q => ?_) (fun q => absurd q (by decide))
  refine AW.run X K_constant_d 17 1 rfl ?_
  refine AW.callV (As := [.int (nI 0), .int (bI (false))]) X (K_giveTruth_m S tl n 0 u t hW hK (false) (by omega)) cb_K_90 rfl rfl K_giveTruth_im K_giveTruth_se rfl ⟨Nat.le_of_ble_eq_true rfl, Nat.le_of_ble_eq_true rfl⟩ (Nat.le_of_ble_eq_true rfl) ⟨Nat.le_of_ble_eq_true rfl, Nat.le_of_ble_eq_true rfl⟩ (K_constant_d.d 18 rfl) (fun v h' q => ?_)
  obtain ⟨rfl, q⟩ := q
  exact AW.iret X (K_constant_d.d 19 rfl) (Nat.le_of_ble_eq_true rfl) (Nat.le_of_ble_eq_true rfl) ⟨rfl, q⟩


set_option maxHeartbeats 4000000 in
set_option maxRecDepth 100000 in
theorem K_faultOfWholes1_m {l : Launch} {G : ax_G} (S : x_S) (tl : List va_E) (n : Nat) (u : Nat → Int) (t : Nat → Bool) (hW : WS n u t) (hK : KS S n u t) (hn : 1 ≤ n) :
    AM l VV G K_faultOfWholes_y K_faultOfWholes_c 4 (some .int) 0 0 0 [.ref 150, .int (nI 1)] (x_hC S tl) (fun v h' => v = some (.int (iZ (pwh1 n u t))) ∧ h' = x_hC S tl) := by
  refine AM.of (pl := pl_K) (by decide) v_good fl_K_ok kl_K_ok nofun (Nat.le_of_ble_eq_true rfl) ?_
  intro p e s m args below meth c X
  refine AW.run X K_faultOfWholes_d 0 5 rfl ?_
  refine AW.run X K_faultOfWholes_d 5 1 rfl ?_
  rw [hK.i (k := 1) hn]
  have hn60 := hW.1
  refine AW.run X K_faultOfWholes_d 6 4 rfl ?_
  refine AW.icmp_ge X (K_faultOfWholes_d.d 10 rfl) (fun q10 => absurd (cge (a := n - 1) (b := n) q10 rfl hK.1) (by omega)) (fun q10 => ?_)
  refine AW.run X K_faultOfWholes_d 11 3 rfl ?_
  refine AW.cl13 (j := n - 1) X rfl (by have := hW.1; omega) (K_faultOfWholes_d.d 14 rfl) ?_
  rw [(hK.2 (n - 1) (by omega)).2]
  refine AW.if_eq X (K_faultOfWholes_d.d 15 rfl) (fun q15 => ?_) (fun q15 => ?_)
  · refine AW.run X K_faultOfWholes_d 18 3 rfl ?_
    refine AW.cl12 (j := n - 1) X rfl (by have := hW.1; omega) (K_faultOfWholes_d.d 21 rfl) ?_
    rw [(hK.2 (n - 1) (by omega)).1]
    refine AW.run X K_faultOfWholes_d 22 1 rfl ?_
    refine AW.irem X (K_faultOfWholes_d.d 23 rfl) (by decide) ?_
    refine AW.if_eq X (K_faultOfWholes_d.d 24 rfl) (fun q24 => ?_) (fun q24 => ?_)
    · refine AW.run X K_faultOfWholes_d 27 1 rfl ?_
      refine AW.goto X (K_faultOfWholes_d.d 28 rfl) ?_
      refine AW.run X K_faultOfWholes_d 7 3 rfl ?_
      refine AW.icmp_ge X (K_faultOfWholes_d.d 10 rfl) (fun q10 => ?_) (fun q10 => absurd (show S.1 9 ≤ nI (n - 1) + Int32.ofInt 1 by rw [hK.1, nI_o1, show n - 1 + 1 = n by omega]; exact Int32.le_refl _) q10)
      refine AW.run X K_faultOfWholes_d 29 1 rfl ?_
      exact AW.iret X (K_faultOfWholes_d.d 30 rfl) (Nat.le_of_ble_eq_true rfl) (Nat.le_of_ble_eq_true rfl) ⟨by unfold pwh1; rw [if_neg (by rw [(bI_0 _).mp q15]; decide), if_neg (fun z => z ((irem_0 (hW.2 (n - 1) (by omega)).1).mp q24))]; rfl, rfl⟩
    · refine AW.run X K_faultOfWholes_d 25 3 rfl ?_
      refine AW.goto X (K_faultOfWholes_d.d 28 rfl) ?_
      refine AW.run X K_faultOfWholes_d 7 3 rfl ?_
      refine AW.icmp_ge X (K_faultOfWholes_d.d 10 rfl) (fun q10 => ?_) (fun q10 => absurd (show S.1 9 ≤ nI (n - 1) + Int32.ofInt 1 by rw [hK.1, nI_o1, show n - 1 + 1 = n by omega]; exact Int32.le_refl _) q10)
      refine AW.run X K_faultOfWholes_d 29 1 rfl ?_
      exact AW.iret X (K_faultOfWholes_d.d 30 rfl) (Nat.le_of_ble_eq_true rfl) (Nat.le_of_ble_eq_true rfl) ⟨by unfold pwh1; rw [if_neg (by rw [(bI_0 _).mp q15]; decide), if_pos (fun z => q24 ((irem_0 (hW.2 (n - 1) (by omega)).1).mpr z))]; rfl, rfl⟩
  · refine AW.run X K_faultOfWholes_d 16 1 rfl ?_
    exact AW.iret X (K_faultOfWholes_d.d 17 rfl) (Nat.le_of_ble_eq_true rfl) (Nat.le_of_ble_eq_true rfl) ⟨by unfold pwh1; rw [if_pos (Bool.of_not_eq_false (fun z => q15 ((bI_0 _).mpr z)))]; rfl, rfl⟩

set_option maxHeartbeats 4000000 in
set_option maxRecDepth 100000 in
theorem K_faultOfWholes2_m {l : Launch} {G : ax_G} (S : x_S) (tl : List va_E) (n : Nat) (u : Nat → Int) (t : Nat → Bool) (hW : WS n u t) (hK : KS S n u t) (hn : 2 ≤ n) :
    AM l VV G K_faultOfWholes_y K_faultOfWholes_c 4 (some .int) 0 0 0 [.ref 150, .int (nI 2)] (x_hC S tl) (fun v h' => v = some (.int (iZ (pwh2 n u t))) ∧ h' = x_hC S tl) := by
  refine AM.of (pl := pl_K) (by decide) v_good fl_K_ok kl_K_ok nofun (Nat.le_of_ble_eq_true rfl) ?_
  intro p e s m args below meth c X
  refine AW.run X K_faultOfWholes_d 0 5 rfl ?_
  refine AW.run X K_faultOfWholes_d 5 1 rfl ?_
  rw [hK.i (k := 2) hn]
  have hn60 := hW.1
  refine AW.run X K_faultOfWholes_d 6 4 rfl ?_
  refine AW.icmp_ge X (K_faultOfWholes_d.d 10 rfl) (fun q10 => absurd (cge (a := n - 2) (b := n) q10 rfl hK.1) (by omega)) (fun q10 => ?_)
  refine AW.run X K_faultOfWholes_d 11 3 rfl ?_
  refine AW.cl13 (j := n - 2) X rfl (by have := hW.1; omega) (K_faultOfWholes_d.d 14 rfl) ?_
  rw [(hK.2 (n - 2) (by omega)).2]
  refine AW.if_eq X (K_faultOfWholes_d.d 15 rfl) (fun qa => ?_) (fun qa => ?_)
  · refine AW.run X K_faultOfWholes_d 18 3 rfl ?_
    refine AW.cl12 (j := n - 2) X rfl (by have := hW.1; omega) (K_faultOfWholes_d.d 21 rfl) ?_
    rw [(hK.2 (n - 2) (by omega)).1]
    refine AW.run X K_faultOfWholes_d 22 1 rfl ?_
    refine AW.irem X (K_faultOfWholes_d.d 23 rfl) (by decide) ?_
    refine AW.if_eq X (K_faultOfWholes_d.d 24 rfl) (fun qb => ?_) (fun qb => ?_)
    · refine AW.run X K_faultOfWholes_d 27 1 rfl ?_
      refine AW.goto X (K_faultOfWholes_d.d 28 rfl) ?_
      refine AW.run X K_faultOfWholes_d 7 3 rfl ?_
      refine AW.icmp_ge X (K_faultOfWholes_d.d 10 rfl) (fun q10 => absurd (show n ≤ n - 1 from (nI_leI (by omega) (by omega)).mp (by rw [← hK.1, show n - 1 = n - 2 + 1 by omega, ← nI_o1]; exact q10)) (by omega)) (fun q10 => ?_)
      refine AW.run X K_faultOfWholes_d 11 3 rfl ?_
      refine AW.cl13 (j := n - 1) X (by rw [nI_o1]; congr 1; omega) (by have := hW.1; omega) (K_faultOfWholes_d.d 14 rfl) ?_
      rw [(hK.2 (n - 1) (by omega)).2]
      refine AW.if_eq X (K_faultOfWholes_d.d 15 rfl) (fun qc => ?_) (fun qc => ?_)
      · refine AW.run X K_faultOfWholes_d 18 3 rfl ?_
        refine AW.cl12 (j := n - 1) X (by rw [nI_o1]; congr 1; omega) (by have := hW.1; omega) (K_faultOfWholes_d.d 21 rfl) ?_
        rw [(hK.2 (n - 1) (by omega)).1]
        refine AW.run X K_faultOfWholes_d 22 1 rfl ?_
        refine AW.irem X (K_faultOfWholes_d.d 23 rfl) (by decide) ?_
        refine AW.if_eq X (K_faultOfWholes_d.d 24 rfl) (fun qd => ?_) (fun qd => ?_)
        · refine AW.run X K_faultOfWholes_d 27 1 rfl ?_
          refine AW.goto X (K_faultOfWholes_d.d 28 rfl) ?_
          refine AW.run X K_faultOfWholes_d 7 3 rfl ?_
          refine AW.icmp_ge X (K_faultOfWholes_d.d 10 rfl) (fun q10 => ?_) (fun q10 => absurd (show S.1 9 ≤ nI (n - 2) + Int32.ofInt 1 + Int32.ofInt 1 by rw [hK.1, nI_o1, nI_o1, show n - 2 + 1 + 1 = n by omega]; exact Int32.le_refl _) q10)
          refine AW.run X K_faultOfWholes_d 29 1 rfl ?_
          exact AW.iret X (K_faultOfWholes_d.d 30 rfl) (Nat.le_of_ble_eq_true rfl) (Nat.le_of_ble_eq_true rfl) ⟨by unfold pwh2; rw [if_neg (fun z => z.elim (fun z => by rw [(bI_0 _).mp qa] at z; cases z) (fun z => by rw [(bI_0 _).mp qc] at z; cases z)), if_neg (fun z => z.elim (fun z => z ((irem_0 (hW.2 (n - 2) (by omega)).1).mp qb)) (fun z => z ((irem_0 (hW.2 (n - 1) (by omega)).1).mp qd)))]; rfl, rfl⟩
        · refine AW.run X K_faultOfWholes_d 25 3 rfl ?_
          refine AW.goto X (K_faultOfWholes_d.d 28 rfl) ?_
          refine AW.run X K_faultOfWholes_d 7 3 rfl ?_
          refine AW.icmp_ge X (K_faultOfWholes_d.d 10 rfl) (fun q10 => ?_) (fun q10 => absurd (show S.1 9 ≤ nI (n - 2) + Int32.ofInt 1 + Int32.ofInt 1 by rw [hK.1, nI_o1, nI_o1, show n - 2 + 1 + 1 = n by omega]; exact Int32.le_refl _) q10)
          refine AW.run X K_faultOfWholes_d 29 1 rfl ?_
          exact AW.iret X (K_faultOfWholes_d.d 30 rfl) (Nat.le_of_ble_eq_true rfl) (Nat.le_of_ble_eq_true rfl) ⟨by unfold pwh2; rw [if_neg (fun z => z.elim (fun z => by rw [(bI_0 _).mp qa] at z; cases z) (fun z => by rw [(bI_0 _).mp qc] at z; cases z)), if_pos (Or.inr (fun z => qd ((irem_0 (hW.2 (n - 1) (by omega)).1).mpr z)))]; rfl, rfl⟩
      · refine AW.run X K_faultOfWholes_d 16 1 rfl ?_
        exact AW.iret X (K_faultOfWholes_d.d 17 rfl) (Nat.le_of_ble_eq_true rfl) (Nat.le_of_ble_eq_true rfl) ⟨by unfold pwh2; rw [if_pos (Or.inr (Bool.of_not_eq_false (fun z => qc ((bI_0 _).mpr z))))]; rfl, rfl⟩
    · refine AW.run X K_faultOfWholes_d 25 3 rfl ?_
      refine AW.goto X (K_faultOfWholes_d.d 28 rfl) ?_
      refine AW.run X K_faultOfWholes_d 7 3 rfl ?_
      refine AW.icmp_ge X (K_faultOfWholes_d.d 10 rfl) (fun q10 => absurd (show n ≤ n - 1 from (nI_leI (by omega) (by omega)).mp (by rw [← hK.1, show n - 1 = n - 2 + 1 by omega, ← nI_o1]; exact q10)) (by omega)) (fun q10 => ?_)
      refine AW.run X K_faultOfWholes_d 11 3 rfl ?_
      refine AW.cl13 (j := n - 1) X (by rw [nI_o1]; congr 1; omega) (by have := hW.1; omega) (K_faultOfWholes_d.d 14 rfl) ?_
      rw [(hK.2 (n - 1) (by omega)).2]
      refine AW.if_eq X (K_faultOfWholes_d.d 15 rfl) (fun qc => ?_) (fun qc => ?_)
      · refine AW.run X K_faultOfWholes_d 18 3 rfl ?_
        refine AW.cl12 (j := n - 1) X (by rw [nI_o1]; congr 1; omega) (by have := hW.1; omega) (K_faultOfWholes_d.d 21 rfl) ?_
        rw [(hK.2 (n - 1) (by omega)).1]
        refine AW.run X K_faultOfWholes_d 22 1 rfl ?_
        refine AW.irem X (K_faultOfWholes_d.d 23 rfl) (by decide) ?_
        refine AW.if_eq X (K_faultOfWholes_d.d 24 rfl) (fun qd => ?_) (fun qd => ?_)
        · refine AW.run X K_faultOfWholes_d 27 1 rfl ?_
          refine AW.goto X (K_faultOfWholes_d.d 28 rfl) ?_
          refine AW.run X K_faultOfWholes_d 7 3 rfl ?_
          refine AW.icmp_ge X (K_faultOfWholes_d.d 10 rfl) (fun q10 => ?_) (fun q10 => absurd (show S.1 9 ≤ nI (n - 2) + Int32.ofInt 1 + Int32.ofInt 1 by rw [hK.1, nI_o1, nI_o1, show n - 2 + 1 + 1 = n by omega]; exact Int32.le_refl _) q10)
          refine AW.run X K_faultOfWholes_d 29 1 rfl ?_
          exact AW.iret X (K_faultOfWholes_d.d 30 rfl) (Nat.le_of_ble_eq_true rfl) (Nat.le_of_ble_eq_true rfl) ⟨by unfold pwh2; rw [if_neg (fun z => z.elim (fun z => by rw [(bI_0 _).mp qa] at z; cases z) (fun z => by rw [(bI_0 _).mp qc] at z; cases z)), if_pos (Or.inl (fun z => qb ((irem_0 (hW.2 (n - 2) (by omega)).1).mpr z)))]; rfl, rfl⟩
        · refine AW.run X K_faultOfWholes_d 25 3 rfl ?_
          refine AW.goto X (K_faultOfWholes_d.d 28 rfl) ?_
          refine AW.run X K_faultOfWholes_d 7 3 rfl ?_
          refine AW.icmp_ge X (K_faultOfWholes_d.d 10 rfl) (fun q10 => ?_) (fun q10 => absurd (show S.1 9 ≤ nI (n - 2) + Int32.ofInt 1 + Int32.ofInt 1 by rw [hK.1, nI_o1, nI_o1, show n - 2 + 1 + 1 = n by omega]; exact Int32.le_refl _) q10)
          refine AW.run X K_faultOfWholes_d 29 1 rfl ?_
          exact AW.iret X (K_faultOfWholes_d.d 30 rfl) (Nat.le_of_ble_eq_true rfl) (Nat.le_of_ble_eq_true rfl) ⟨by unfold pwh2; rw [if_neg (fun z => z.elim (fun z => by rw [(bI_0 _).mp qa] at z; cases z) (fun z => by rw [(bI_0 _).mp qc] at z; cases z)), if_pos (Or.inl (fun z => qb ((irem_0 (hW.2 (n - 2) (by omega)).1).mpr z)))]; rfl, rfl⟩
      · refine AW.run X K_faultOfWholes_d 16 1 rfl ?_
        exact AW.iret X (K_faultOfWholes_d.d 17 rfl) (Nat.le_of_ble_eq_true rfl) (Nat.le_of_ble_eq_true rfl) ⟨by unfold pwh2; rw [if_pos (Or.inr (Bool.of_not_eq_false (fun z => qc ((bI_0 _).mpr z))))]; rfl, rfl⟩
  · refine AW.run X K_faultOfWholes_d 16 1 rfl ?_
    exact AW.iret X (K_faultOfWholes_d.d 17 rfl) (Nat.le_of_ble_eq_true rfl) (Nat.le_of_ble_eq_true rfl) ⟨by unfold pwh2; rw [if_pos (Or.inl (Bool.of_not_eq_false (fun z => qa ((bI_0 _).mpr z))))]; rfl, rfl⟩

theorem and_sp (x : Int32) : (x &&& (-65536)) + (x &&& 65535) = x := by
  apply Int32.toBitVec_inj.mp
  rw [Int32.toBitVec_add, Int32.toBitVec_and, Int32.toBitVec_and]
  show (x.toBitVec &&& 4294901760#32) + (x.toBitVec &&& 65535#32) = x.toBitVec
  rw [BitVec.add_eq_or_of_and_eq_zero]
  · rw [← BitVec.and_or_distrib_left, show (4294901760#32 ||| 65535#32) = BitVec.allOnes 32 from by decide, BitVec.and_allOnes]
  · rw [BitVec.and_comm (x.toBitVec) 65535#32, BitVec.and_assoc, ← BitVec.and_assoc (4294901760#32), show (4294901760#32 &&& 65535#32) = 0#32 from by decide, BitVec.zero_and, BitVec.and_zero]
theorem and_lo {a : Int} (h : zI a) : iZ a &&& 65535 = iZ (a % 65536) := by
  apply Int32.toInt_inj.mp
  have h1 := h.1
  have h2 := h.2
  rw [iZ_t ⟨by omega, by omega⟩]
  have e : (iZ a &&& 65535).toBitVec.toNat = (a % 65536).toNat := by
    rw [Int32.toBitVec_and, BitVec.toNat_and]
    show (iZ a).toBitVec.toNat &&& (2 ^ 16 - 1) = _
    rw [Nat.and_two_pow_sub_one_eq_mod]
    have e1 : (iZ a).toBitVec.toInt = a := iZ_t h
    have e2 := BitVec.toInt_eq_toNat_cond (iZ a).toBitVec
    rw [e1] at e2
    have := (iZ a).toBitVec.isLt
    split at e2 <;> omega
  show (iZ a &&& 65535).toBitVec.toInt = _
  rw [BitVec.toInt_eq_toNat_cond, e]
  split <;> omega
theorem and_hi {a : Int} (h : zI a) : iZ a &&& (-65536) = iZ (zfl a) := by
  have e := and_sp (iZ a)
  rw [and_lo h] at e
  have e2 : iZ a &&& (-65536) = iZ a - iZ (a % 65536) := by
    have e9 := congrArg (· - iZ (a % 65536)) e
    simp only [Int32.add_sub_cancel] at e9
    exact e9
  rw [e2, iZ_sub]
  congr 1
  unfold zfl
  rw [Int.fdiv_eq_ediv_of_nonneg _ (by decide)]
  omega
theorem zfl_p {a : Int} (h : 0 ≤ a) : zfl a = ztr a := by
  unfold zfl ztr
  rw [Int.fdiv_eq_tdiv_of_nonneg h (by decide)]
theorem zfl_n {a : Int} (h : a < 0) : -zfl (-a) = ztr a := by
  unfold zfl ztr
  rw [Int.fdiv_eq_tdiv_of_nonneg (by omega) (by decide), Int.neg_tdiv]
  omega
theorem sh_1 : ∀ k : Nat, k < 24 → (Int64.ofNat ((1 : Fin 2) : Nat) <<< ((nI k).toInt64 &&& 63)) = lZ (2 ^ k) := by decide +kernel
theorem root_c : ((0 + 2 ^ 24) * (0 + 2 ^ 24) / 65536 : Int) = 4294967296 := by decide

set_option maxHeartbeats 4000000 in
set_option maxRecDepth 100000 in
theorem B_floor_m {l : Launch} {G : ax_G} {h : List va_E} (a : Int) (ha : zI a) :
    AM l VV G B_floor_y B_floor_c 1 (some .int) 0 0 0 [.int (iZ a)] (h) (fun v h' => v = some (.int (iZ (zfl a))) ∧ h' = h) := by
  refine AM.of (pl := pl_B) (by decide) v_good fl_B_ok kl_B_ok nofun (Nat.le_of_ble_eq_true rfl) ?_
  intro p e s m args below meth c X
  refine AW.run X B_floor_d 0 3 rfl ?_
  exact AW.iret X (B_floor_d.d 3 rfl) (Nat.le_of_ble_eq_true rfl) (Nat.le_of_ble_eq_true rfl) ⟨by rw [and_hi ha], rfl⟩

set_option maxHeartbeats 4000000 in
set_option maxRecDepth 100000 in
theorem B_truncate_m {l : Launch} {G : ax_G} {h : List va_E} (a : Int) (ha : zN a) :
    AM l VV G B_truncate_y B_truncate_c 1 (some .int) 1 0 0 [.int (iZ a)] (h) (fun v h' => v = some (.int (iZ (ztr a))) ∧ h' = h) := by
  refine AM.of (pl := pl_B) (by decide) v_good fl_B_ok kl_B_ok nofun (Nat.le_of_ble_eq_true rfl) ?_
  intro p e s m args below meth c X
  refine AW.run X B_truncate_d 0 1 rfl ?_
  refine AW.if_ge X (B_truncate_d.d 1 rfl) (fun q1 => ?_) (fun q1 => ?_)
  · refine AW.run X B_truncate_d 7 1 rfl ?_
    refine AW.callS (As := [.int (iZ a)]) X (B_floor_m a (zN_I ha)) cb_B_36 B_floor_st rfl ⟨Nat.le_of_ble_eq_true rfl, Nat.le_of_ble_eq_true rfl⟩ (Nat.le_of_ble_eq_true rfl) ⟨Nat.le_of_ble_eq_true rfl, Nat.le_of_ble_eq_true rfl⟩ (B_truncate_d.d 8 rfl) (fun v h' q => ?_)
    obtain ⟨rfl, e9⟩ := q
    rw [e9]
    clear e9
    exact AW.iret X (B_truncate_d.d 9 rfl) (Nat.le_of_ble_eq_true rfl) (Nat.le_of_ble_eq_true rfl) ⟨by rw [zfl_p ((iZ_le ⟨by decide, by decide⟩ (zN_I ha)).mp q1)], rfl⟩
  · refine AW.run X B_truncate_d 2 2 rfl ?_
    rw [iZ_neg]
    refine AW.callS (As := [.int (iZ (-a))]) X (B_floor_m (-a) ⟨by have := ha.2; omega, by have := ha.1; omega⟩) cb_B_36 B_floor_st rfl ⟨Nat.le_of_ble_eq_true rfl, Nat.le_of_ble_eq_true rfl⟩ (Nat.le_of_ble_eq_true rfl) ⟨Nat.le_of_ble_eq_true rfl, Nat.le_of_ble_eq_true rfl⟩ (B_truncate_d.d 4 rfl) (fun v h' q => ?_)
    obtain ⟨rfl, e9⟩ := q
    rw [e9]
    clear e9
    refine AW.run X B_truncate_d 5 1 rfl ?_
    refine AW.goto X (B_truncate_d.d 6 rfl) ?_
    exact AW.iret X (B_truncate_d.d 9 rfl) (Nat.le_of_ble_eq_true rfl) (Nat.le_of_ble_eq_true rfl) ⟨by rw [iZ_neg, zfl_n (by have := mt (iZ_le (a := 0) ⟨by decide, by decide⟩ (zN_I ha)).mpr q1; omega)], rfl⟩

set_option maxHeartbeats 4000000 in
set_option maxRecDepth 100000 in
theorem B_root_m {l : Launch} {G : ax_G} {h : List va_E} (a : Int) (ha : zN a) (h0 : 0 ≤ a) :
    AM l VV G B_root_y B_root_c 6 (some .int) 0 0 0 [.int (iZ a)] (h) (fun v h' => v = some (.int (iZ (zroot a))) ∧ h' = h) := by
  refine AM.of (pl := pl_B) (by decide) v_good fl_B_ok kl_B_ok nofun (Nat.le_of_ble_eq_true rfl) ?_
  intro p e s m args below meth c X
  refine AW.run X B_root_d 0 4 rfl ?_
  have L5 : ∀ (k : Nat) (r : Int), k ≤ 24 → 0 ≤ r → r + 2 ^ k ≤ 16777216 → r * r / 65536 ≤ a → a < (r + 2 ^ k) * (r + 2 ^ k) / 65536 → AW p l e (ax_R 0 0 0) s m args below meth c VV G 6 (h) 0 0 (MQ below (ax_Q VV G (fun v h' => v = some (.int (iZ (zroot a))) ∧ h' = h)) args s 0 0 (fun q => G.bs ≤ q)) 5 [(3, .int (iZ ((k : Int) - 1))), (1, .long (lZ r)), (0, .int (iZ a))] [] := by
    intro k
    induction k with
    | zero =>
      intro r h1 h2 h3 h4 h5
      refine AW.run X B_root_d 4 1 rfl ?_
      refine AW.if_lt X (B_root_d.d 5 rfl) (fun q5 => ?_) (fun q5 => absurd (show iZ (((0 : Nat) : Int) - 1) < 0 by decide) q5)
      refine AW.run X B_root_d 25 2 rfl ?_
      exact AW.iret X (B_root_d.d 27 rfl) (Nat.le_of_ble_eq_true rfl) (Nat.le_of_ble_eq_true rfl) ⟨by rw [lZ_i, zroot_eq ⟨h2, h4, by have e : (2 : Int) ^ 0 = 1 := rfl; rw [e] at h5; exact h5⟩], rfl⟩
    | succ k ih =>
      intro r h1 h2 h3 h4 h5
      have hp : (0 : Int) < 2 ^ k := Int.pow_pos (by decide)
      have e2 : (2 : Int) ^ (k + 1) = 2 ^ k + 2 ^ k := by rw [Int.pow_succ]; omega
      rw [e2] at h3 h5
      have hb : (r + 2 ^ k) * (r + 2 ^ k) ≤ 16777216 * 16777216 := Int.mul_le_mul (by omega) (by omega) (by omega) (by decide)
      have hb0 : 0 ≤ (r + 2 ^ k) * (r + 2 ^ k) := Int.mul_nonneg (by omega) (by omega)
      rw [show iZ (((k + 1 : Nat) : Int) - 1) = nI k from by rw [iZ_n]; congr 1; omega]
      refine AW.run X B_root_d 4 1 rfl ?_
      refine AW.if_lt X (B_root_d.d 5 rfl) (fun q5 => absurd q5 (nI_pos (by omega))) (fun q5 => ?_)
      refine AW.run X B_root_d 6 6 rfl ?_
      rw [sh_1 k (by omega), lZ_add]
      refine AW.run X B_root_d 12 7 rfl ?_
      rw [lZ_mul, show (lZ ((r + 2 ^ k) * (r + 2 ^ k)) >>> ((Int8.ofInt 16).toInt32.toInt64 &&& 63)) = lZ (((r + 2 ^ k) * (r + 2 ^ k)).fdiv (2 ^ 16)) from lZ_sar _ 16 (by decide) ⟨by omega, by omega⟩, iZ_l (zN_I ha), Int.fdiv_eq_ediv_of_nonneg _ (by decide), show (2 : Int) ^ 16 = 65536 from rfl]
      refine AW.run X B_root_d 19 1 rfl ?_
      refine AW.if_gt X (B_root_d.d 20 rfl) (fun q20 => ?_) (fun q20 => ?_)
      · refine AW.run X B_root_d 23 1 rfl ?_
        refine AW.goto X (B_root_d.d 24 rfl) ?_
        refine AW.pk [0, 2, 3] rfl ?_
        rw [show nI k + Int32.ofInt (-1) = iZ ((k : Int) - 1) from by rw [iZ_n, show Int32.ofInt (-1) = iZ (-1) from rfl, iZ_add]; rfl]
        exact ih r (by omega) h2 (by omega) h4 (by have := (lc_gt (a := (r + 2 ^ k) * (r + 2 ^ k) / 65536) (b := a) ⟨by omega, by omega⟩ (zN_L ha)).mp q20; omega)
      · refine AW.run X B_root_d 21 3 rfl ?_
        refine AW.goto X (B_root_d.d 24 rfl) ?_
        refine AW.pk [0, 1, 3] rfl ?_
        rw [show nI k + Int32.ofInt (-1) = iZ ((k : Int) - 1) from by rw [iZ_n, show Int32.ofInt (-1) = iZ (-1) from rfl, iZ_add]; rfl]
        exact ih (r + 2 ^ k) (by omega) (by omega) (by omega) (by have := mt (lc_gt (a := (r + 2 ^ k) * (r + 2 ^ k) / 65536) (b := a) ⟨by omega, by omega⟩ (zN_L ha)).mpr q20; omega) (by rw [Int.add_assoc]; exact h5)
  exact L5 24 0 (by decide) (by decide) (by decide) (by show (0 : Int) * 0 / 65536 ≤ a; exact h0) (by have := ha.2; rw [root_c]; omega)

