/-! functions: the numbers that told one, as whole numbers q k -/
def zpow (x : Int) : Nat → Int
  | 0 => 65536
  | k + 1 => ztimes (zpow x k) x
def zPw (q : Nat → Int) (x : Int) (o : Nat) : Int := zk (q (3 + 2 * o) + ztimes (zpow (zcut x (q 0) (q 1)) (q 2).toNat) (zk (q (4 + 2 * o) - q (3 + 2 * o))))
theorem zpow_N (x : Int) : ∀ k, zN (zpow x k)
  | 0 => ⟨by show (-1073741824 : Int) ≤ 65536; decide, by show (65536 : Int) ≤ 1073741824; decide⟩
  | k + 1 => zk_N _
theorem zcut_N {x a b : Int} (hx : zN x) (ha : zN a) (hb : zN b) : zN (zcut x a b) := by
  unfold zcut
  split
  · exact ha
  · split
    · exact hb
    · exact hx
/-- the class's terms: cell b of the rest of the heap -/
def DQ (tl : List va_E) (b : Nat) (q : Nat → Int) (L : Nat) : Prop := L ≤ 96 ∧ ∃ T : Nat → Int32, tl[b]? = some (.inl (0, L, .inl T)) ∧ ∀ k, k < L → T k = iZ (q k) ∧ zN (q k)
/-- the reference's: row f of numbers -/
def FQ (M : x_M) (f : Nat) (q : Nat → Int) (L : Nat) : Prop := f < 24 ∧ L ≤ 96 ∧ ∀ k, k < L → M.2.1 7 (96 * f + k) = iZ (q k) ∧ zN (q k)
theorem zL_ct {a b c : Int} (ha : zN a) (hb : zN b) (hc : zN c) : zL (a + ztimes b c) := by
  have h := zk_N ((b * c).fdiv 65536)
  unfold ztimes
  exact ⟨by have := h.1; have := ha.1; omega, by have := h.2; have := ha.2; omega⟩
set_option maxHeartbeats 4000000 in
set_option maxRecDepth 100000 in
theorem F_withinPair_m {l : Launch} {G : ax_G} {h : List va_E} (a b ci k i L : Nat) (fs : List Value) (T : Nat → Int32) (x lo hi : Int) (hO : h[a]? = some (.inr (ci, fs))) (h1 : ax_al fl_F 16 ci = some k) (h2 : fs[k]? = some (.ref b)) (hT : h[b]? = some (.inl (0, L, .inl T))) (hL : L ≤ 96) (hi1 : i + 1 < L) (e1 : T i = iZ lo) (e2 : T (i + 1) = iZ hi) (hx : zN x) (hlo : zN lo) (hhi : zN hi) (hle : lo ≤ hi) :
    AM l VV G F_withinPair_y F_withinPair_c 3 (some .int) 2 0 0 [.ref a, .int (iZ x), .int (nI i)] (h) (fun v h' => v = some (.int (iZ (zcut x lo hi))) ∧ h' = h) := by
  refine AM.of (pl := pl_F) (by decide) v_good fl_F_ok kl_F_ok nofun (Nat.le_of_ble_eq_true rfl) ?_
  intro p e s m args below meth c X
  refine AW.run X F_withinPair_d 0 3 rfl ?_
  refine AW.get X hO h1 h2 (F_withinPair_d.d 3 rfl) ?_
  refine AW.run X F_withinPair_d 4 1 rfl ?_
  refine AW.iald (j := i) X hT rfl rfl (by omega) (by omega) (F_withinPair_d.d 5 rfl) ?_
  rw [e1]
  refine AW.run X F_withinPair_d 6 2 rfl ?_
  refine AW.get X hO h1 h2 (F_withinPair_d.d 8 rfl) ?_
  refine AW.run X F_withinPair_d 9 3 rfl ?_
  refine AW.iald (j := i + 1) X hT rfl (nI_o1 i) hi1 (by omega) (F_withinPair_d.d 12 rfl) ?_
  rw [e2]
  refine AW.run X F_withinPair_d 13 1 rfl ?_
  rw [iZ_l (zN_I hx), iZ_l (zN_I hlo), iZ_l (zN_I hhi)]
  refine AW.callS (As := [.long (lZ x), .long (lZ lo), .long (lZ hi)]) X (B_within_m x lo hi (zN_L hx) (zN_L hlo) (zN_L hhi) hle) cb_F_20 B_within_st rfl ⟨Nat.le_of_ble_eq_true rfl, Nat.le_of_ble_eq_true rfl⟩ (Nat.le_of_ble_eq_true rfl) ⟨Nat.le_of_ble_eq_true rfl, Nat.le_of_ble_eq_true rfl⟩ (F_withinPair_d.d 14 rfl) (fun v h' q => ?_)
  obtain ⟨rfl, e9⟩ := q
  rw [e9]
  clear e9
  refine AW.run X F_withinPair_d 15 1 rfl ?_
  exact AW.iret X (F_withinPair_d.d 16 rfl) (Nat.le_of_ble_eq_true rfl) (Nat.le_of_ble_eq_true rfl) ⟨by rw [lZ_i], rfl⟩

set_option maxHeartbeats 4000000 in
set_option maxRecDepth 100000 in
theorem M_ofq_m {l : Launch} {G : ax_G} (S : x_S) (M : x_M) (tl : List va_E) (f k L : Nat) (q : Nat → Int) (hF : FQ M f q L) (hk : k < L) :
    AM l VV G M_of_y M_of_c 3 (some .long) 0 0 0 [.ref 153, .int (nI f), .int (nI k)] (x_hM S M tl) (fun v h' => v = some (.long (lZ (q k))) ∧ h' = x_hM S M tl) := by
  refine AM.of (pl := pl_M) (by decide) v_good fl_M_ok kl_M_ok nofun (Nat.le_of_ble_eq_true rfl) ?_
  intro p e s m args below meth c X
  refine AW.run X M_of_d 0 7 rfl ?_
  refine AW.ml7 (j := 96 * f + k) X (by rw [show (Int8.ofInt 96).toInt32 * nI f = nI (96 * f) from pk_mul 96 f, nI_add]) (by have := hF.1; have := hF.2.1; omega) (M_of_d.d 7 rfl) ?_
  rw [(hF.2.2 k hk).1]
  refine AW.run X M_of_d 8 1 rfl ?_
  exact AW.lret X (M_of_d.d 9 rfl) (Nat.le_of_ble_eq_true rfl) (Nat.le_of_ble_eq_true rfl) ⟨by rw [iZ_l (zN_I (hF.2.2 k hk).2)], rfl⟩

set_option maxHeartbeats 4000000 in
set_option maxRecDepth 100000 in
theorem P_evaluate_m {l : Launch} {G : ax_G} (S : x_S) (tl : List va_E) (dd : Nat) (hdd : 6 ≤ dd) (i b o : Nat) (q : Nat → Int) (x : Int) (ho : 1 ≤ o ∧ o ≤ 4) (hO : tl[i]? = some (.inr (6, [.int (nI 1), .int (nI o), .ref (153 + b)]))) (hD : DQ tl b q (3 + 2 * o)) (hq : q 0 ≤ q 1 ∧ 0 ≤ q 2 ∧ q 2 ≤ 16) (hx : zN x) (hg : S.2.1 4 0 = iZ x) :
    AM l VV G P_evaluate_y P_evaluate_c 11 none dd 0 0 [.ref (153 + i), .ref 139, .ref 138, .ref 140] (x_hC S tl) (fun v h' => v = none ∧ ∃ g, h' = x_hC (x_A S 3 g) tl ∧ (∀ j, j < o → g j = iZ (zPw q x j)) ∧ ∀ j, o ≤ j → g j = S.2.1 3 j) := by
  refine AM.of (pl := pl_P) (by decide) v_good fl_P_ok kl_P_ok nofun (Nat.le_of_ble_eq_true rfl) ?_
  intro p e s m args below meth c X
  obtain ⟨hL, T, hT, hQ⟩ := hD
  refine AW.run X P_evaluate_d 0 3 rfl ?_
  refine AW.cl4 (j := 0) X rfl (by decide) (P_evaluate_d.d 3 rfl) ?_
  rw [hg]
  refine AW.run X P_evaluate_d 4 1 rfl ?_
  refine AW.callU (rc := ("NumberFunctions$Powers", Cl_P, 3)) (As := [.int (iZ x), .int (nI 0)]) X (F_withinPair_m (153 + i) (153 + b) 6 2 0 (3 + 2 * o) _ T x (q 0) (q 1) ((x_tl _ tl i).trans hO) rfl rfl ((x_tl _ tl b).trans hT) hL (by omega) (hQ 0 (by omega)).1 (hQ 1 (by omega)).1 hx (hQ 0 (by omega)).2 (hQ 1 (by omega)).2 hq.1) cu_P_9_P ((x_tl _ tl i).trans hO) rfl rfl ⟨by show _ ≤ dd; omega, by show _ ≤ 40 * dd; omega⟩ (Nat.le_of_ble_eq_true rfl) ⟨Nat.le_of_ble_eq_true rfl, Nat.le_of_ble_eq_true rfl⟩ (P_evaluate_d.d 5 rfl) (fun v h' q => ?_)
  obtain ⟨rfl, rfl⟩ := q
  refine AW.run X P_evaluate_d 6 2 rfl ?_
  have hX : zN (zcut x (q 0) (q 1)) := zcut_N hx (hQ 0 (by omega)).2 (hQ 1 (by omega)).2
  refine AW.run X P_evaluate_d 8 3 rfl ?_
  have L17 : ∀ (t2 k : Nat), (k : Int) ≤ q 2 → 16 - k < t2 → AW p l e (ax_R dd 0 0) s m args below meth c VV G 11 (x_hC S tl) 0 0 (MQ below (ax_Q VV G (fun v h' => v = none ∧ ∃ g, h' = x_hC (x_A S 3 g) tl ∧ (∀ j, j < o → g j = iZ (zPw q x j)) ∧ ∀ j, o ≤ j → g j = S.2.1 3 j)) args s 0 0 (fun q => G.bs ≤ q)) 17 [(6, .int (nI k)), (5, .int (iZ (zpow (zcut x (q 0) (q 1)) k))), (4, .int (iZ (zcut x (q 0) (q 1)))), (0, .ref (153 + i)), (1, .ref 139), (2, .ref 138), (3, .ref 140)] [] := by
    intro t2
    induction t2 with
    | zero => intro k h1 h2; exact absurd h2 (by omega)
    | succ t2 ih =>
      intro k h1 h2
      refine AW.run X P_evaluate_d 11 2 rfl ?_
      refine AW.get X ((x_tl _ tl i).trans hO) rfl rfl (P_evaluate_d.d 13 rfl) ?_
      refine AW.run X P_evaluate_d 14 1 rfl ?_
      refine AW.iald (j := 2) X ((x_tl _ tl b).trans hT) rfl rfl (by omega) (by omega) (P_evaluate_d.d 15 rfl) ?_
      rw [(hQ (2) (by omega)).1]
      refine AW.icmp_ge X (P_evaluate_d.d 16 rfl) (fun q16 => ?_) (fun q16 => ?_)
      · refine AW.run X P_evaluate_d 23 2 rfl ?_
        have L46 : ∀ (t3 k : Nat) (g : Nat → Int32), k ≤ o → o - k < t3 → (∀ j, j < k → g j = iZ (zPw q x j)) → (∀ j, k ≤ j → g j = S.2.1 3 j) → AW p l e (ax_R dd 0 0) s m args below meth c VV G 11 (x_hC (x_A S 3 g) tl) 0 0 (MQ below (ax_Q VV G (fun v h' => v = none ∧ ∃ g, h' = x_hC (x_A S 3 g) tl ∧ (∀ j, j < o → g j = iZ (zPw q x j)) ∧ ∀ j, o ≤ j → g j = S.2.1 3 j)) args s 0 0 (fun q => G.bs ≤ q)) 46 [(6, .int (nI k)), (5, .int (iZ (zpow (zcut x (q 0) (q 1)) (q 2).toNat))), (4, .int (iZ (zcut x (q 0) (q 1)))), (0, .ref (153 + i)), (1, .ref 139), (2, .ref 138), (3, .ref 140)] [] := by
          intro t3
          induction t3 with
          | zero => intro k g h3 h4; exact absurd h4 (by omega)
          | succ t3 ih3 =>
            intro k g h3 h4 h5 h6
            refine AW.run X P_evaluate_d 25 2 rfl ?_
            refine AW.get X ((x_tl _ tl i).trans hO) rfl rfl (P_evaluate_d.d 27 rfl) ?_
            refine AW.icmp_ge X (P_evaluate_d.d 28 rfl) (fun q28 => ?_) (fun q28 => ?_)
            · exact AW.vret X (P_evaluate_d.d 66 rfl) (Nat.le_of_ble_eq_true rfl) (Nat.le_of_ble_eq_true rfl) ⟨rfl, g, rfl, fun j hj => h5 j (by have := cge q28; omega), fun j hj => h6 j (by have := cge q28; omega)⟩
            · have hk : k < o := clt q28
              refine AW.run X P_evaluate_d 29 1 rfl ?_
              refine AW.get X ((x_tl _ tl i).trans hO) rfl rfl (P_evaluate_d.d 30 rfl) ?_
              refine AW.run X P_evaluate_d 31 5 rfl ?_
              refine AW.iald (j := 3 + 2 * k) X ((x_tl _ tl b).trans hT) rfl (by rw [show Int32.ofInt 2 * nI k = nI (2 * k) from pk_mul 2 k]; exact nI_add 3 (2 * k)) (by omega) (by omega) (P_evaluate_d.d 36 rfl) ?_
              rw [(hQ (3 + 2 * k) (by omega)).1]
              refine AW.run X P_evaluate_d 37 3 rfl ?_
              refine AW.get X ((x_tl _ tl i).trans hO) rfl rfl (P_evaluate_d.d 40 rfl) ?_
              refine AW.run X P_evaluate_d 41 7 rfl ?_
              refine AW.iald (j := 4 + 2 * k) X ((x_tl _ tl b).trans hT) rfl (by rw [show Int32.ofInt 2 * nI k = nI (2 * k) from pk_mul 2 k, show Int32.ofInt 3 + nI (2 * k) = nI (3 + 2 * k) from nI_add 3 (2 * k), nI_o1]; congr 1; omega) (by omega) (by omega) (P_evaluate_d.d 48 rfl) ?_
              rw [(hQ (4 + 2 * k) (by omega)).1]
              refine AW.run X P_evaluate_d 49 9 rfl ?_
              rw [iZ_l (zN_I (hQ (3 + 2 * k) (by omega)).2), iZ_l (zN_I (hQ (4 + 2 * k) (by omega)).2), lZ_sub]
              refine AW.callS (As := [.long (lZ (q (4 + 2 * k) - q (3 + 2 * k)))]) X (B_number_m (q (4 + 2 * k) - q (3 + 2 * k)) (zL_sub (hQ (4 + 2 * k) (by omega)).2 (hQ (3 + 2 * k) (by omega)).2)) cb_P_29 B_number_st rfl ⟨by show _ ≤ dd; omega, by show _ ≤ 40 * dd; omega⟩ (Nat.le_of_ble_eq_true rfl) ⟨Nat.le_of_ble_eq_true rfl, Nat.le_of_ble_eq_true rfl⟩ (P_evaluate_d.d 58 rfl) (fun v h' q => ?_)
              obtain ⟨rfl, rfl⟩ := q
              refine AW.callS (As := [.int (iZ (zpow (zcut x (q 0) (q 1)) (q 2).toNat)), .int (iZ (zk (q (4 + 2 * k) - q (3 + 2 * k))))]) X (B_times_m (zpow (zcut x (q 0) (q 1)) (q 2).toNat) (zk (q (4 + 2 * k) - q (3 + 2 * k))) (zpow_N _ _) (zk_N _)) cb_P_20 B_times_st rfl ⟨by show _ ≤ dd; omega, by show _ ≤ 40 * dd; omega⟩ (Nat.le_of_ble_eq_true rfl) ⟨Nat.le_of_ble_eq_true rfl, Nat.le_of_ble_eq_true rfl⟩ (P_evaluate_d.d 59 rfl) (fun v h' q => ?_)
              obtain ⟨rfl, rfl⟩ := q
              refine AW.run X P_evaluate_d 60 2 rfl ?_
              rw [iZ_l (z := ztimes (zpow (zcut x (q 0) (q 1)) (q 2).toNat) (zk (q (4 + 2 * k) - q (3 + 2 * k)))) (zN_I (zk_N _)), lZ_add]
              refine AW.callS (As := [.long (lZ (q (3 + 2 * k) + ztimes (zpow (zcut x (q 0) (q 1)) (q 2).toNat) (zk (q (4 + 2 * k) - q (3 + 2 * k)))))]) X (B_number_m (q (3 + 2 * k) + ztimes (zpow (zcut x (q 0) (q 1)) (q 2).toNat) (zk (q (4 + 2 * k) - q (3 + 2 * k)))) (zL_ct (hQ (3 + 2 * k) (by omega)).2 (zpow_N _ _) (zk_N _))) cb_P_29 B_number_st rfl ⟨by show _ ≤ dd; omega, by show _ ≤ 40 * dd; omega⟩ (Nat.le_of_ble_eq_true rfl) ⟨Nat.le_of_ble_eq_true rfl, Nat.le_of_ble_eq_true rfl⟩ (P_evaluate_d.d 62 rfl) (fun v h' q => ?_)
              obtain ⟨rfl, rfl⟩ := q
              refine AW.cs3 (j := k) X rfl (show k < 4 by omega) (P_evaluate_d.d 63 rfl) ?_
              refine AW.run X P_evaluate_d 64 1 rfl ?_
              refine AW.goto X (P_evaluate_d.d 65 rfl) ?_
              refine AW.pk [0, 3, 4, 5, 6, 7, 8] rfl ?_
              rw [nI_o1, x_aA]
              exact ih3 (k + 1) _ (by omega) (by omega) (fun j hj => by
                by_cases e1 : j = k
                · rw [e1, upd_s]; rfl
                · rw [upd_n e1]; exact h5 j (by omega)) (fun j hj => by rw [upd_n (by omega)]; exact h6 j (by omega))
        rw [show k = (q 2).toNat by have := (iZ_le (a := q 2) (b := (k : Int)) ⟨by omega, by omega⟩ ⟨by omega, by omega⟩).mp (by rw [← iZ_n]; exact q16); omega, ← x_A0 S 3]
        exact L46 (o + 1) 0 (S.2.1 3) (by omega) (by omega) (fun j hj => absurd hj (by omega)) (fun j _ => rfl)
      · refine AW.run X P_evaluate_d 17 2 rfl ?_
        refine AW.callS (As := [.int (iZ (zpow (zcut x (q 0) (q 1)) k)), .int (iZ (zcut x (q 0) (q 1)))]) X (B_times_m (zpow (zcut x (q 0) (q 1)) k) (zcut x (q 0) (q 1)) (zpow_N _ _) hX) cb_P_20 B_times_st rfl ⟨by show _ ≤ dd; omega, by show _ ≤ 40 * dd; omega⟩ (Nat.le_of_ble_eq_true rfl) ⟨Nat.le_of_ble_eq_true rfl, Nat.le_of_ble_eq_true rfl⟩ (P_evaluate_d.d 19 rfl) (fun v h' q => ?_)
        obtain ⟨rfl, rfl⟩ := q
        refine AW.run X P_evaluate_d 20 2 rfl ?_
        refine AW.goto X (P_evaluate_d.d 22 rfl) ?_
        rw [nI_o1]
        exact ih (k + 1) (by have := mt (iZ_le (a := q 2) (b := (k : Int)) ⟨by omega, by omega⟩ ⟨by omega, by omega⟩).mpr (by rw [← iZ_n]; exact q16); omega) (by have := mt (iZ_le (a := q 2) (b := (k : Int)) ⟨by omega, by omega⟩ ⟨by omega, by omega⟩).mpr (by rw [← iZ_n]; exact q16); omega)
  exact L17 17 0 (by omega) (by omega)

set_option maxHeartbeats 4000000 in
set_option maxRecDepth 100000 in
theorem M_powers_m {l : Launch} {G : ax_G} (S : x_S) (M : x_M) (tl : List va_E) (f o : Nat) (q : Nat → Int) (x : Int) (hF : FQ M f q (3 + 2 * o)) (ho : 1 ≤ o ∧ o ≤ 4) (hgv : M.2.1 6 f = nI o) (hq : q 0 ≤ q 1 ∧ 0 ≤ q 2 ∧ q 2 ≤ 16) (hx : zN x) :
    AM l VV G M_powers_y M_powers_c 11 none 3 0 0 [.ref 153, .int (nI f), .long (lZ x)] (x_hM S M tl) (fun v h' => v = none ∧ ∃ g, h' = x_hM S (y_L M 2 g) tl ∧ ∀ j, j < o → g j = lZ (zPw q x j)) := by
  refine AM.of (pl := pl_M) (by decide) v_good fl_M_ok kl_M_ok nofun (Nat.le_of_ble_eq_true rfl) ?_
  intro p e s m args below meth c X
  have hf := hF.1
  have hL := hF.2.1
  have hQ := hF.2.2
  refine AW.run X M_powers_d 0 4 rfl ?_
  refine AW.callV (As := [.int (nI f), .int (nI (0))]) X (M_ofq_m S M tl f 0 _ q hF (by omega)) cb_M_320 rfl rfl M_of_im M_of_se rfl ⟨Nat.le_of_ble_eq_true rfl, Nat.le_of_ble_eq_true rfl⟩ (Nat.le_of_ble_eq_true rfl) ⟨Nat.le_of_ble_eq_true rfl, Nat.le_of_ble_eq_true rfl⟩ (M_powers_d.d 4 rfl) (fun v h' q => ?_)
  obtain ⟨rfl, rfl⟩ := q
  refine AW.run X M_powers_d 5 3 rfl ?_
  refine AW.callV (As := [.int (nI f), .int (nI (1))]) X (M_ofq_m S M tl f 1 _ q hF (by omega)) cb_M_320 rfl rfl M_of_im M_of_se rfl ⟨Nat.le_of_ble_eq_true rfl, Nat.le_of_ble_eq_true rfl⟩ (Nat.le_of_ble_eq_true rfl) ⟨Nat.le_of_ble_eq_true rfl, Nat.le_of_ble_eq_true rfl⟩ (M_powers_d.d 8 rfl) (fun v h' q => ?_)
  obtain ⟨rfl, rfl⟩ := q
  refine AW.callS (As := [.long (lZ x), .long (lZ (q (0))), .long (lZ (q (1)))]) X (M_cutTo_m x (q 0) (q 1) (zN_L hx) (zN_L (hQ (0) (by omega)).2) (zN_L (hQ (1) (by omega)).2)) cb_M_104 M_cutTo_st rfl ⟨Nat.le_of_ble_eq_true rfl, Nat.le_of_ble_eq_true rfl⟩ (Nat.le_of_ble_eq_true rfl) ⟨Nat.le_of_ble_eq_true rfl, Nat.le_of_ble_eq_true rfl⟩ (M_powers_d.d 9 rfl) (fun v h' q => ?_)
  obtain ⟨rfl, rfl⟩ := q
  refine AW.run X M_powers_d 10 2 rfl ?_
  have hX : zN (zcut x (q 0) (q 1)) := zcut_N hx (hQ (0) (by omega)).2 (hQ (1) (by omega)).2
  refine AW.run X M_powers_d 12 3 rfl ?_
  have L26 : ∀ (t2 k : Nat), (k : Int) ≤ q 2 → 16 - k < t2 → AW p l e (ax_R 3 0 0) s m args below meth c VV G 11 (x_hM S M tl) 0 0 (MQ below (ax_Q VV G (fun v h' => v = none ∧ ∃ g, h' = x_hM S (y_L M 2 g) tl ∧ ∀ j, j < o → g j = lZ (zPw q x j))) args s 0 0 (fun q => G.bs ≤ q)) 26 [(8, .int (nI k)), (6, .long (lZ (zpow (zcut x (q 0) (q 1)) k))), (4, .long (lZ (zcut x (q 0) (q 1)))), (0, .ref 153), (1, .int (nI f)), (2, .long (lZ x))] [] := by
    intro t2
    induction t2 with
    | zero => intro k h1 h2; exact absurd h2 (by omega)
    | succ t2 ih =>
      intro k h1 h2
      refine AW.run X M_powers_d 15 1 rfl ?_
      refine AW.run X M_powers_d 16 1 rfl ?_
      rw [show (nI k).toInt64 = lZ (k : Int) from by rw [iZ_n]; exact iZ_l ⟨by omega, by omega⟩]
      refine AW.run X M_powers_d 17 3 rfl ?_
      refine AW.callV (As := [.int (nI f), .int (nI (2))]) X (M_ofq_m S M tl f 2 _ q hF (by omega)) cb_M_320 rfl rfl M_of_im M_of_se rfl ⟨Nat.le_of_ble_eq_true rfl, Nat.le_of_ble_eq_true rfl⟩ (Nat.le_of_ble_eq_true rfl) ⟨Nat.le_of_ble_eq_true rfl, Nat.le_of_ble_eq_true rfl⟩ (M_powers_d.d 20 rfl) (fun v h' q => ?_)
      obtain ⟨rfl, rfl⟩ := q
      refine AW.run X M_powers_d 21 1 rfl ?_
      refine AW.if_ge X (M_powers_d.d 22 rfl) (fun q22 => ?_) (fun q22 => ?_)
      · refine AW.run X M_powers_d 29 2 rfl ?_
        have L57 : ∀ (t3 k : Nat) (g : Nat → Int64), k ≤ o → o - k < t3 → (∀ j, j < k → g j = lZ (zPw q x j)) → AW p l e (ax_R 3 0 0) s m args below meth c VV G 11 (x_hM S (y_L M 2 g) tl) 0 0 (MQ below (ax_Q VV G (fun v h' => v = none ∧ ∃ g, h' = x_hM S (y_L M 2 g) tl ∧ ∀ j, j < o → g j = lZ (zPw q x j))) args s 0 0 (fun q => G.bs ≤ q)) 57 [(8, .int (nI k)), (6, .long (lZ (zpow (zcut x (q 0) (q 1)) (q 2).toNat))), (4, .long (lZ (zcut x (q 0) (q 1)))), (0, .ref 153), (1, .int (nI f)), (2, .long (lZ x))] [] := by
          intro t3
          induction t3 with
          | zero => intro k g h3 h4; exact absurd h4 (by omega)
          | succ t3 ih3 =>
            intro k g h3 h4 h5
            refine AW.run X M_powers_d 31 4 rfl ?_
            refine AW.ml6 (j := f) X rfl hf (M_powers_d.d 35 rfl) ?_
            refine AW.icmp_ge X (M_powers_d.d 36 rfl) (fun q36 => ?_) (fun q36 => ?_)
            · exact AW.vret X (M_powers_d.d 68 rfl) (Nat.le_of_ble_eq_true rfl) (Nat.le_of_ble_eq_true rfl) ⟨rfl, g, rfl, fun j hj => h5 j (by have := cge q36 rfl hgv; omega)⟩
            · have hk : k < o := clt q36 rfl hgv
              refine AW.run X M_powers_d 37 7 rfl ?_
              rw [show Int32.ofInt 2 * nI k = nI (2 * k) from pk_mul 2 k, show Int32.ofInt 3 + nI (2 * k) = nI (3 + 2 * k) from nI_add 3 (2 * k)]
              refine AW.callV (As := [.int (nI f), .int (nI (3 + 2 * k))]) X (M_ofq_m S (y_L M 2 g) tl f (3 + 2 * k) _ q hF (by omega)) cb_M_320 rfl rfl M_of_im M_of_se rfl ⟨Nat.le_of_ble_eq_true rfl, Nat.le_of_ble_eq_true rfl⟩ (Nat.le_of_ble_eq_true rfl) ⟨Nat.le_of_ble_eq_true rfl, Nat.le_of_ble_eq_true rfl⟩ (M_powers_d.d 44 rfl) (fun v h' q => ?_)
              obtain ⟨rfl, rfl⟩ := q
              refine AW.run X M_powers_d 45 13 rfl ?_
              rw [show Int32.ofInt 2 * nI k = nI (2 * k) from pk_mul 2 k, show Int32.ofInt 4 + nI (2 * k) = nI (4 + 2 * k) from nI_add 4 (2 * k)]
              refine AW.callV (As := [.int (nI f), .int (nI (4 + 2 * k))]) X (M_ofq_m S (y_L M 2 g) tl f (4 + 2 * k) _ q hF (by omega)) cb_M_320 rfl rfl M_of_im M_of_se rfl ⟨Nat.le_of_ble_eq_true rfl, Nat.le_of_ble_eq_true rfl⟩ (Nat.le_of_ble_eq_true rfl) ⟨Nat.le_of_ble_eq_true rfl, Nat.le_of_ble_eq_true rfl⟩ (M_powers_d.d 58 rfl) (fun v h' q => ?_)
              obtain ⟨rfl, rfl⟩ := q
              refine AW.run X M_powers_d 59 2 rfl ?_
              rw [lZ_sub]
              refine AW.callS (As := [.long (lZ (q (4 + 2 * k) - q (3 + 2 * k)))]) X (M_kept_m (q (4 + 2 * k) - q (3 + 2 * k)) (zL_sub (hQ (4 + 2 * k) (by omega)).2 (hQ (3 + 2 * k) (by omega)).2)) cb_M_119 M_kept_st rfl ⟨Nat.le_of_ble_eq_true rfl, Nat.le_of_ble_eq_true rfl⟩ (Nat.le_of_ble_eq_true rfl) ⟨Nat.le_of_ble_eq_true rfl, Nat.le_of_ble_eq_true rfl⟩ (M_powers_d.d 61 rfl) (fun v h' q => ?_)
              obtain ⟨rfl, rfl⟩ := q
              refine AW.callS (As := [.long (lZ (zpow (zcut x (q 0) (q 1)) (q 2).toNat)), .long (lZ (zk (q (4 + 2 * k) - q (3 + 2 * k))))]) X (M_times_m (zpow (zcut x (q 0) (q 1)) (q 2).toNat) (zk (q (4 + 2 * k) - q (3 + 2 * k))) (zpow_N _ _) (zk_N _)) cb_M_328 M_times_st rfl ⟨Nat.le_of_ble_eq_true rfl, Nat.le_of_ble_eq_true rfl⟩ (Nat.le_of_ble_eq_true rfl) ⟨Nat.le_of_ble_eq_true rfl, Nat.le_of_ble_eq_true rfl⟩ (M_powers_d.d 62 rfl) (fun v h' q => ?_)
              obtain ⟨rfl, rfl⟩ := q
              refine AW.run X M_powers_d 63 1 rfl ?_
              rw [lZ_add]
              refine AW.callS (As := [.long (lZ (q (3 + 2 * k) + ztimes (zpow (zcut x (q 0) (q 1)) (q 2).toNat) (zk (q (4 + 2 * k) - q (3 + 2 * k)))))]) X (M_kept_m (q (3 + 2 * k) + ztimes (zpow (zcut x (q 0) (q 1)) (q 2).toNat) (zk (q (4 + 2 * k) - q (3 + 2 * k)))) (zL_ct (hQ (3 + 2 * k) (by omega)).2 (zpow_N _ _) (zk_N _))) cb_M_119 M_kept_st rfl ⟨Nat.le_of_ble_eq_true rfl, Nat.le_of_ble_eq_true rfl⟩ (Nat.le_of_ble_eq_true rfl) ⟨Nat.le_of_ble_eq_true rfl, Nat.le_of_ble_eq_true rfl⟩ (M_powers_d.d 64 rfl) (fun v h' q => ?_)
              obtain ⟨rfl, rfl⟩ := q
              refine AW.msl2 (j := k) X rfl (show k < 4 by omega) (M_powers_d.d 65 rfl) ?_
              refine AW.run X M_powers_d 66 1 rfl ?_
              refine AW.goto X (M_powers_d.d 67 rfl) ?_
              refine AW.pk [0, 2, 3, 4, 5, 6] rfl ?_
              rw [nI_o1, y_lL]
              exact ih3 (k + 1) _ (by omega) (by omega) (fun j hj => by
                by_cases e1 : j = k
                · rw [e1, updL_s]; rfl
                · rw [updL_n e1]; exact h5 j (by omega))
        rw [show k = (q 2).toNat by have := (lc_ge (a := (k : Int)) (b := q 2) ⟨by omega, by omega⟩ ⟨by omega, by omega⟩).mp q22; omega]
        exact AW.eq (h' := x_hM S (y_L M 2 (M.2.2 2)) tl) (by rw [y_L0]) (L57 (o + 1) 0 (M.2.2 2) (by omega) (by omega) (fun j hj => absurd hj (by omega)))
      · refine AW.run X M_powers_d 23 2 rfl ?_
        refine AW.callS (As := [.long (lZ (zpow (zcut x (q 0) (q 1)) k)), .long (lZ (zcut x (q 0) (q 1)))]) X (M_times_m (zpow (zcut x (q 0) (q 1)) k) (zcut x (q 0) (q 1)) (zpow_N _ _) hX) cb_M_328 M_times_st rfl ⟨Nat.le_of_ble_eq_true rfl, Nat.le_of_ble_eq_true rfl⟩ (Nat.le_of_ble_eq_true rfl) ⟨Nat.le_of_ble_eq_true rfl, Nat.le_of_ble_eq_true rfl⟩ (M_powers_d.d 25 rfl) (fun v h' q => ?_)
        obtain ⟨rfl, rfl⟩ := q
        refine AW.run X M_powers_d 26 2 rfl ?_
        refine AW.goto X (M_powers_d.d 28 rfl) ?_
        rw [nI_o1]
        exact ih (k + 1) (by have := mt (lc_ge (a := (k : Int)) (b := q 2) ⟨by omega, by omega⟩ ⟨by omega, by omega⟩).mpr q22; omega) (by have := mt (lc_ge (a := (k : Int)) (b := q 2) ⟨by omega, by omega⟩ ⟨by omega, by omega⟩).mpr q22; omega)
  exact L26 17 0 (by omega) (by omega)

