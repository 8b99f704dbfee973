theorem most_w : ∀ w, w ≤ 16 → (Int64.ofNat ((1 : Fin 2) : Nat) <<< ((nI w).toInt64 &&& 63) - Int64.ofNat ((1 : Fin 2) : Nat)) * (65536 : Int64) = lZ ((2 ^ w - 1) * 65536) := by decide
theorem most_b {w : Nat} (h : w ≤ 16) : 0 ≤ ((2 : Int) ^ w - 1) * 65536 ∧ ((2 : Int) ^ w - 1) * 65536 ≤ 4294901760 := by
  have : ∀ w, w ≤ 16 → 0 ≤ ((2 : Int) ^ w - 1) * 65536 ∧ ((2 : Int) ^ w - 1) * 65536 ≤ 4294901760 := by decide
  exact this w h
/-- what samples change in the reference -/
def PS (M M' : x_M) : Prop := M'.1 = M.1 ∧ (∀ k, k ≠ 10 → M'.2.1 k = M.2.1 k) ∧ ∀ k, 2 < k → M'.2.2 k = M.2.2 k
theorem PS.refl (M : x_M) : PS M M := ⟨rfl, fun _ _ => rfl, fun _ _ => rfl⟩
theorem PS.a {M M1 : x_M} (h : PS M M1) (j : Nat) (x : Int32) : PS M (y_a M1 10 j x) := ⟨h.1, fun k a => (y_an M1 j x a).trans (h.2.1 k a), h.2.2⟩
theorem PS.l {M M1 : x_M} (h : PS M M1) {k : Nat} (j : Nat) (x : Int64) (hk : k ≤ 2) : PS M (y_l M1 k j x) := ⟨h.1, h.2.1, fun i a => (y_ln M1 j x (by omega)).trans (h.2.2 i a)⟩
theorem PS.L {M M1 : x_M} (h : PS M M1) (g : Nat → Int64) : PS M (y_L M1 0 g) := ⟨h.1, h.2.1, fun i a => (va_up_ne _ _ (by omega)).trans (h.2.2 i a)⟩
theorem FQ.ps {M M' : x_M} {f : Nat} {q : Nat → Int} {L : Nat} (h : FQ M f q L) (g : PS M M') : FQ M' f q L := ⟨h.1, h.2.1, by rw [g.2.1 7 (by decide)]; exact h.2.2⟩
def zwh (q inp : Nat → Int) (i : Nat) : Int := zst q i (inp i) / 65536
def zrs (q inp : Nat → Int) (i : Nat) : Int := zst q i (inp i) % 65536
theorem zwh_b {q inp : Nat → Int} {i : Nat} (h : 1 ≤ q (5 * i + 2) ∧ q (5 * i + 2) ≤ 64) : 0 ≤ zwh q inp i ∧ zwh q inp i < 64 := by
  have := zst_b (q := q) (i := i) (x := inp i) h.1
  unfold zwh; omega
theorem zrs_b (q inp : Nat → Int) (i : Nat) : 0 ≤ zrs q inp i ∧ zrs q inp i < 65536 := by unfold zrs; omega
theorem zst_L {q inp : Nat → Int} {i : Nat} (h : 1 ≤ q (5 * i + 2) ∧ q (5 * i + 2) ≤ 64) : 0 ≤ zst q i (inp i) ∧ zst q i (inp i) < 4194304 := by
  have := zst_b (q := q) (i := i) (x := inp i) h.1
  omega
/-- the value of output o, as the pieces give it -/
theorem zSm_e {q bt inp : Nat → Int} {n m o wd : Nat} (hw : q (5 * n) = wd) : zSm q bt n m o inp = zcut (zlaid (zlv (zrs q inp) (zL0 q (zwh q inp) bt n m wd o) n 0) 0 ((2 ^ wd - 1) * 65536) (q (5 * n + 1 + 4 * o + 2)) (q (5 * n + 1 + 4 * o + 3))) (q (5 * n + 1 + 4 * o)) (q (5 * n + 1 + 4 * o + 1)) := by
  unfold zSm zS1
  rw [hw, Int.toNat_natCast]
  congr 2
  unfold zrs
  congr 1
  funext c
  unfold zS0 zL0 zwh
  rw [hw, Int.toNat_natCast]
set_option maxHeartbeats 4000000 in
set_option maxRecDepth 100000 in
theorem M_decoded_m {l : Launch} {G : ax_G} (S : x_S) (M : x_M) (tl : List va_E) (f n m wd o : Nat) (q : Nat → Int) (x : Int) (hF : FQ M f q (5 * n + 1 + 4 * m)) (ho : o < m) (hwd : wd ≤ 16) (htk : M.2.1 5 f = nI n) (hx : 0 ≤ x ∧ x ≤ (2 ^ wd - 1) * 65536) :
    AM l VV G M_decoded_y M_decoded_c 11 (some .long) 3 0 0 [.ref 153, .int (nI f), .int (nI o), .long (lZ x), .int (nI wd)] (x_hM S M tl) (fun v h' => v = some (.long (lZ (zcut (zlaid x 0 ((2 ^ wd - 1) * 65536) (q (5 * n + 1 + 4 * o + 2)) (q (5 * n + 1 + 4 * o + 3))) (q (5 * n + 1 + 4 * o)) (q (5 * n + 1 + 4 * o + 1))))) ∧ h' = x_hM S M tl) := by
  refine AM.of (pl := pl_M) (by decide) v_good fl_M_ok kl_M_ok nofun (Nat.le_of_ble_eq_true rfl) ?_
  intro p0v e0v s0v m0v args below meth c0v X
  have hL := hF.2.1
  have hf := hF.1
  have hmb := most_b hwd
  refine AW.run X M_decoded_d 0 4 rfl ?_
  refine AW.ml5 (j := f) X rfl (by omega) (M_decoded_d.d 4 rfl) ?_
  rw [htk]
  refine AW.run X M_decoded_d 5 6 rfl ?_
  refine AW.run X M_decoded_d 11 1 rfl ?_
  rw [show Int32.ofInt 5 * nI n + Int32.ofInt 1 + Int32.ofInt 4 * nI o = nI (5 * n + 1 + 4 * o) from by rw [show Int32.ofInt 5 * nI n = nI (5 * n) from pk_mul 5 n, nI_o1, show Int32.ofInt 4 * nI o = nI (4 * o) from pk_mul 4 o, nI_add]]
  refine AW.run X M_decoded_d 12 7 rfl ?_
  refine AW.run X M_decoded_d 19 1 rfl ?_
  rw [most_w wd hwd]
  refine AW.run X M_decoded_d 20 9 rfl ?_
  rw [show nI (5 * n + 1 + 4 * o) + Int32.ofInt 2 = nI (5 * n + 1 + 4 * o + 2) from nI_add (5 * n + 1 + 4 * o) 2]
  refine AW.callV (As := [.int (nI f), .int (nI (5 * n + 1 + 4 * o + 2))]) X (M_ofq_m S M tl f (5 * n + 1 + 4 * o + 2) _ q hF (by omega)) cb_M_320 rfl rfl M_of_im M_of_se rfl ⟨Nat.le_of_ble_eq_true rfl, Nat.le_of_ble_eq_true rfl⟩ (Nat.le_of_ble_eq_true rfl) ⟨Nat.le_of_ble_eq_true rfl, Nat.le_of_ble_eq_true rfl⟩ (M_decoded_d.d 29 rfl) (fun v h' q => ?_)
  obtain ⟨rfl, rfl⟩ := q
  refine AW.run X M_decoded_d 30 5 rfl ?_
  rw [show nI (5 * n + 1 + 4 * o) + Int32.ofInt 3 = nI (5 * n + 1 + 4 * o + 3) from nI_add (5 * n + 1 + 4 * o) 3]
  refine AW.callV (As := [.int (nI f), .int (nI (5 * n + 1 + 4 * o + 3))]) X (M_ofq_m S M tl f (5 * n + 1 + 4 * o + 3) _ q hF (by omega)) cb_M_320 rfl rfl M_of_im M_of_se rfl ⟨Nat.le_of_ble_eq_true rfl, Nat.le_of_ble_eq_true rfl⟩ (Nat.le_of_ble_eq_true rfl) ⟨Nat.le_of_ble_eq_true rfl, Nat.le_of_ble_eq_true rfl⟩ (M_decoded_d.d 35 rfl) (fun v h' q => ?_)
  obtain ⟨rfl, rfl⟩ := q
  rw [lZ_c0]
  refine AW.callS (As := [.long (lZ x), .long (lZ 0), .long (lZ ((2 ^ wd - 1) * 65536)), .long (lZ (q (5 * n + 1 + 4 * o + 2))), .long (lZ (q (5 * n + 1 + 4 * o + 3)))]) X (M_laid_m x 0 ((2 ^ wd - 1) * 65536) (q (5 * n + 1 + 4 * o + 2)) (q (5 * n + 1 + 4 * o + 3)) hx ⟨by decide, by decide⟩ ⟨by omega, by omega⟩ (by omega) (hF.2.2 _ (by omega)).2 (hF.2.2 _ (by omega)).2) cb_M_324 M_laid_st rfl ⟨Nat.le_of_ble_eq_true rfl, Nat.le_of_ble_eq_true rfl⟩ (Nat.le_of_ble_eq_true rfl) ⟨Nat.le_of_ble_eq_true rfl, Nat.le_of_ble_eq_true rfl⟩ (M_decoded_d.d 36 rfl) (fun v h' q => ?_)
  obtain ⟨rfl, rfl⟩ := q
  refine AW.run X M_decoded_d 37 5 rfl ?_
  refine AW.callV (As := [.int (nI f), .int (nI (5 * n + 1 + 4 * o))]) X (M_ofq_m S M tl f (5 * n + 1 + 4 * o) _ q hF (by omega)) cb_M_320 rfl rfl M_of_im M_of_se rfl ⟨Nat.le_of_ble_eq_true rfl, Nat.le_of_ble_eq_true rfl⟩ (Nat.le_of_ble_eq_true rfl) ⟨Nat.le_of_ble_eq_true rfl, Nat.le_of_ble_eq_true rfl⟩ (M_decoded_d.d 42 rfl) (fun v h' q => ?_)
  obtain ⟨rfl, rfl⟩ := q
  refine AW.run X M_decoded_d 43 5 rfl ?_
  rw [show nI (5 * n + 1 + 4 * o) + Int32.ofInt 1 = nI (5 * n + 1 + 4 * o + 1) from nI_add (5 * n + 1 + 4 * o) 1]
  refine AW.callV (As := [.int (nI f), .int (nI (5 * n + 1 + 4 * o + 1))]) X (M_ofq_m S M tl f (5 * n + 1 + 4 * o + 1) _ q hF (by omega)) cb_M_320 rfl rfl M_of_im M_of_se rfl ⟨Nat.le_of_ble_eq_true rfl, Nat.le_of_ble_eq_true rfl⟩ (Nat.le_of_ble_eq_true rfl) ⟨Nat.le_of_ble_eq_true rfl, Nat.le_of_ble_eq_true rfl⟩ (M_decoded_d.d 48 rfl) (fun v h' q => ?_)
  obtain ⟨rfl, rfl⟩ := q
  refine AW.callS (As := [.long (lZ (zlaid x 0 ((2 ^ wd - 1) * 65536) (q (5 * n + 1 + 4 * o + 2)) (q (5 * n + 1 + 4 * o + 3)))), .long (lZ (q (5 * n + 1 + 4 * o))), .long (lZ (q (5 * n + 1 + 4 * o + 1)))]) X (M_cutTo_m (zlaid x 0 ((2 ^ wd - 1) * 65536) (q (5 * n + 1 + 4 * o + 2)) (q (5 * n + 1 + 4 * o + 3))) (q (5 * n + 1 + 4 * o)) (q (5 * n + 1 + 4 * o + 1)) (zN_L (zlaid_N (hF.2.2 _ (by omega)).2)) (zN_L (hF.2.2 _ (by omega)).2) (zN_L (hF.2.2 _ (by omega)).2)) cb_M_104 M_cutTo_st rfl ⟨Nat.le_of_ble_eq_true rfl, Nat.le_of_ble_eq_true rfl⟩ (Nat.le_of_ble_eq_true rfl) ⟨Nat.le_of_ble_eq_true rfl, Nat.le_of_ble_eq_true rfl⟩ (M_decoded_d.d 49 rfl) (fun v h' q => ?_)
  obtain ⟨rfl, rfl⟩ := q
  exact AW.lret X (M_decoded_d.d 50 rfl) (Nat.le_of_ble_eq_true rfl) (Nat.le_of_ble_eq_true rfl) ⟨rfl, rfl⟩

set_option maxHeartbeats 4000000 in
set_option maxRecDepth 100000 in
theorem M_samples_m {l : Launch} {G : ax_G} (S : x_S) (M : x_M) (tl : List va_E) (f n m wd : Nat) (q inp : Nat → Int) (hf : f < 24) (hZ : zTl q n m wd) (h5 : q (5 * n) = wd) (hF : FQ M f q (5 * n + 1 + 4 * m)) (htk : M.2.1 5 f = nI n) (hgv : M.2.1 6 f = nI m) (hle : ∀ k, k < n → q (5 * k) ≤ q (5 * k + 1)) (hin : ∀ k, k < n → zN (inp k) ∧ (k ≠ 0 → M.2.1 2 k = iZ (inp k))) :
    AM l VV G M_samples_y M_samples_c 13 none 4 0 0 [.ref 153, .int (nI f), .long (lZ (inp 0))] (x_hM S M tl) (fun v h' => v = none ∧ ∃ M', h' = x_hM S M' tl ∧ PS M M' ∧ ∀ o, o < m → M'.2.2 2 o = lZ (zSm q (zbt (fun j => M.2.1 9 (8192 * f + j))) n m o inp)) := by
  refine AM.of (pl := pl_M) (by decide) v_good fl_M_ok kl_M_ok nofun (Nat.le_of_ble_eq_true rfl) ?_
  intro p0v e0v s0v m0v args below meth c0v X
  obtain ⟨hn, hm, hwd, hqs, hbt⟩ := hZ
  have hL := hF.2.1
  refine AW.run X M_samples_d 0 3 rfl ?_
  refine AW.ml5 (j := f) X rfl (by omega) (M_samples_d.d 3 rfl) ?_
  rw [htk]
  refine AW.run X M_samples_d 4 6 rfl ?_
  rw [show Int32.ofInt 5 * nI n = nI (5 * n) from pk_mul 5 n]
  refine AW.callV (As := [.int (nI f), .int (nI (5 * n))]) X (M_ofq_m S M tl f (5 * n) _ q hF (by omega)) cb_M_320 rfl rfl M_of_im M_of_se rfl ⟨Nat.le_of_ble_eq_true rfl, Nat.le_of_ble_eq_true rfl⟩ (Nat.le_of_ble_eq_true rfl) ⟨Nat.le_of_ble_eq_true rfl, Nat.le_of_ble_eq_true rfl⟩ (M_samples_d.d 10 rfl) (fun v h' q => ?_)
  obtain ⟨rfl, rfl⟩ := q
  refine AW.run X M_samples_d 11 1 rfl ?_
  rw [lZ_i, h5, ← iZ_n]
  refine AW.run X M_samples_d 12 3 rfl ?_
  have L23 : ∀ (t1 k : Nat) (M2 : x_M), k ≤ n → n - k < t1 → PS M M2 → (∀ j, j < k → M2.2.1 10 j = iZ (zwh q inp j) ∧ M2.2.2 1 j = lZ (zrs q inp j)) → AW p0v l e0v (ax_R 4 0 0) s0v m0v args below meth c0v VV G 13 (x_hM S M2 tl) 0 0 (MQ below (ax_Q VV G (fun v h' => v = none ∧ ∃ M', h' = x_hM S M' tl ∧ PS M M' ∧ ∀ o, o < m → M'.2.2 2 o = lZ (zSm q (zbt (fun j => M.2.1 9 (8192 * f + j))) n m o inp))) args s0v 0 0 (fun q => G.bs ≤ q)) 23 [(6, .int (nI k)), (5, .int (nI wd)), (4, .int (nI n)), (0, .ref 153), (1, .int (nI f)), (2, .long (lZ (inp 0)))] [] := by
    intro t1
    induction t1 with
    | zero => intro k M2 a1 a2; exact absurd a2 (by omega)
    | succ t1 ih1 =>
      intro k M2 a1 a2 hP2 hA
      have hF2 := hF.ps hP2
      refine AW.run X M_samples_d 15 2 rfl ?_
      refine AW.icmp_ge X (M_samples_d.d 17 rfl) (fun q17 => ?_) (fun q17 => ?_)
      · refine AW.run X M_samples_d 94 2 rfl ?_
        have L160 : ∀ (t2 k : Nat) (M2 : x_M), k ≤ m → m - k < t2 → PS M M2 → (∀ j, j < n → M2.2.1 10 j = iZ (zwh q inp j) ∧ M2.2.2 1 j = lZ (zrs q inp j)) → (∀ j, j < k → M2.2.2 2 j = lZ (zSm q (zbt (fun j => M.2.1 9 (8192 * f + j))) n m j inp)) → AW p0v l e0v (ax_R 4 0 0) s0v m0v args below meth c0v VV G 13 (x_hM S M2 tl) 0 0 (MQ below (ax_Q VV G (fun v h' => v = none ∧ ∃ M', h' = x_hM S M' tl ∧ PS M M' ∧ ∀ o, o < m → M'.2.2 2 o = lZ (zSm q (zbt (fun j => M.2.1 9 (8192 * f + j))) n m o inp))) args s0v 0 0 (fun q => G.bs ≤ q)) 160 [(6, .int (nI k)), (5, .int (nI wd)), (4, .int (nI n)), (0, .ref 153), (1, .int (nI f)), (2, .long (lZ (inp 0)))] [] := by
          intro t2
          induction t2 with
          | zero => intro k M2 a1 a2; exact absurd a2 (by omega)
          | succ t2 ih2 =>
            intro k M2 a1 a2 hP2 hA hV
            have hF2 := hF.ps hP2
            have htk2 : M2.2.1 5 f = nI n := by rw [hP2.2.1 5 (by decide)]; exact htk
            have hgv2 : M2.2.1 6 f = nI m := by rw [hP2.2.1 6 (by decide)]; exact hgv
            have hbt2 : zbt (fun j => M2.2.1 9 (8192 * f + j)) = (zbt (fun j => M.2.1 9 (8192 * f + j))) := by rw [hP2.2.1 9 (by decide)]
            refine AW.run X M_samples_d 96 4 rfl ?_
            refine AW.ml6 (j := f) X rfl (by omega) (M_samples_d.d 100 rfl) ?_
            rw [show M2.2.1 6 f = nI m from by rw [hP2.2.1 6 (by decide)]; exact hgv]
            refine AW.icmp_ge X (M_samples_d.d 101 rfl) (fun q101 => ?_) (fun q101 => ?_)
            · exact AW.vret X (M_samples_d.d 118 rfl) (Nat.le_of_ble_eq_true rfl) (Nat.le_of_ble_eq_true rfl) ⟨rfl, M2, rfl, hP2, fun j hj => hV j (by have := cge q101; omega)⟩
            · have hk : k < m := clt q101
              refine AW.run X M_samples_d 102 10 rfl ?_
              refine AW.callV (As := [.int (nI f), .int (nI k), .int (nI wd)]) X (M_interpolated_m S M2 tl f n m wd k q (zwh q inp) (zrs q inp) hf ⟨hn, hm, hwd, hqs, hbt⟩ hk hF2 htk2 hgv2 (fun i l => ⟨(hA i l).1, zwh_b (hqs i l)⟩) (fun i l => ⟨(hA i l).2, zrs_b q inp i⟩)) cb_M_334 rfl rfl M_interpolated_im M_interpolated_se rfl ⟨Nat.le_of_ble_eq_true rfl, Nat.le_of_ble_eq_true rfl⟩ (Nat.le_of_ble_eq_true rfl) ⟨Nat.le_of_ble_eq_true rfl, Nat.le_of_ble_eq_true rfl⟩ (M_samples_d.d 112 rfl) (fun v h' q => ?_)
              obtain ⟨rfl, g, rfl⟩ := q
              rw [hbt2]
              refine AW.run X M_samples_d 113 1 rfl ?_
              have hzv : 0 ≤ zlv (zrs q inp) (zL0 q (zwh q inp) (zbt (fun j => M.2.1 9 (8192 * f + j))) n m wd k) n 0 ∧ zlv (zrs q inp) (zL0 q (zwh q inp) (zbt (fun j => M.2.1 9 (8192 * f + j))) n m wd k) n 0 ≤ (2 ^ wd - 1) * 65536 := zlv_b (fun c => by
                have := zsm_b (zbt_b (fun j => M.2.1 9 (8192 * f + j))) (((zps q (zwh q inp) c n).1.toNat * m + k) * wd) wd
                unfold zL0
                omega) n (fun i _ => zrs_b q inp i) n (Nat.le_refl _) 0
              refine AW.callV (As := [.int (nI f), .int (nI k), .long (lZ (zlv (zrs q inp) (zL0 q (zwh q inp) (zbt (fun j => M.2.1 9 (8192 * f + j))) n m wd k) n 0)), .int (nI wd)]) X (M_decoded_m S (y_L M2 0 g) tl f n m wd k q _ ⟨hF2.1, hF2.2.1, hF2.2.2⟩ hk hwd htk2 hzv) cb_M_338 rfl rfl M_decoded_im M_decoded_se rfl ⟨Nat.le_of_ble_eq_true rfl, Nat.le_of_ble_eq_true rfl⟩ (Nat.le_of_ble_eq_true rfl) ⟨Nat.le_of_ble_eq_true rfl, Nat.le_of_ble_eq_true rfl⟩ (M_samples_d.d 114 rfl) (fun v h' q => ?_)
              obtain ⟨rfl, rfl⟩ := q
              rw [← zSm_e h5]
              refine AW.msl2 (j := k) X rfl (by omega) (M_samples_d.d 115 rfl) ?_
              refine AW.run X M_samples_d 116 1 rfl ?_
              refine AW.goto X (M_samples_d.d 117 rfl) ?_
              rw [nI_o1]
              exact ih2 (k + 1) _ (by omega) (by omega) ((hP2.L g).l (k := 2) k _ (by decide)) (fun j hj => hA j hj) (fun j hj => by
                rw [y_lg]
                by_cases z : j = k
                · rw [z, updL_s]
                · rw [updL_n z]; exact hV j (by omega))
        exact L160 (m + 1) 0 M2 (by omega) (by omega) hP2 (fun j hj => hA j (by have := cge q17; omega)) (fun j hj => absurd hj (Nat.not_lt_zero j))
      · have hk : k < n := clt q17
        have hzs := zst_L (inp := inp) (hqs k hk)
        have hin2 : (if k = 0 then inp 0 else (M2.2.1 2 k).toInt) = inp k := by
          by_cases z : k = 0
          · rw [if_pos z, z]
          · rw [if_neg z, hP2.2.1 2 (by decide), (hin k hk).2 z, iZ_t (zN_I (hin k hk).1)]
        refine AW.run X M_samples_d 18 5 rfl ?_
        rw [show Int32.ofInt 5 * nI k = nI (5 * k) from pk_mul 5 k]
        refine AW.callV (As := [.int (nI f), .int (nI (5 * k))]) X (M_ofq_m S M2 tl f (5 * k) _ q hF2 (by omega)) cb_M_320 rfl rfl M_of_im M_of_se rfl ⟨Nat.le_of_ble_eq_true rfl, Nat.le_of_ble_eq_true rfl⟩ (Nat.le_of_ble_eq_true rfl) ⟨Nat.le_of_ble_eq_true rfl, Nat.le_of_ble_eq_true rfl⟩ (M_samples_d.d 23 rfl) (fun v h' q => ?_)
        obtain ⟨rfl, rfl⟩ := q
        refine AW.run X M_samples_d 24 8 rfl ?_
        rw [show Int32.ofInt 5 * nI k + Int32.ofInt 1 = nI (5 * k + 1) from by rw [show Int32.ofInt 5 * nI k = nI (5 * k) from pk_mul 5 k]; exact nI_add (5 * k) 1]
        refine AW.callV (As := [.int (nI f), .int (nI (5 * k + 1))]) X (M_ofq_m S M2 tl f (5 * k + 1) _ q hF2 (by omega)) cb_M_320 rfl rfl M_of_im M_of_se rfl ⟨Nat.le_of_ble_eq_true rfl, Nat.le_of_ble_eq_true rfl⟩ (Nat.le_of_ble_eq_true rfl) ⟨Nat.le_of_ble_eq_true rfl, Nat.le_of_ble_eq_true rfl⟩ (M_samples_d.d 32 rfl) (fun v h' q => ?_)
        obtain ⟨rfl, rfl⟩ := q
        refine AW.run X M_samples_d 33 4 rfl ?_
        refine AW.callV (As := [.int (nI k), .long (lZ (inp 0))]) X (M_inputOf_m S M2 tl k (inp 0) (by omega)) cb_M_331 rfl rfl M_inputOf_im M_inputOf_se rfl ⟨Nat.le_of_ble_eq_true rfl, Nat.le_of_ble_eq_true rfl⟩ (Nat.le_of_ble_eq_true rfl) ⟨Nat.le_of_ble_eq_true rfl, Nat.le_of_ble_eq_true rfl⟩ (M_samples_d.d 37 rfl) (fun v h' q => ?_)
        obtain ⟨rfl, rfl⟩ := q
        rw [show (if k = 0 then inp 0 else (M2.2.1 2 k).toInt) = inp k from hin2]
        refine AW.run X M_samples_d 38 2 rfl ?_
        refine AW.callS (As := [.long (lZ (inp k)), .long (lZ (q (5 * k))), .long (lZ (q (5 * k + 1)))]) X (M_cutTo_m (inp k) (q (5 * k)) (q (5 * k + 1)) (zN_L (hin k hk).1) (zN_L (hF.2.2 (5 * k) (by omega)).2) (zN_L (hF.2.2 (5 * k + 1) (by omega)).2)) cb_M_104 M_cutTo_st rfl ⟨Nat.le_of_ble_eq_true rfl, Nat.le_of_ble_eq_true rfl⟩ (Nat.le_of_ble_eq_true rfl) ⟨Nat.le_of_ble_eq_true rfl, Nat.le_of_ble_eq_true rfl⟩ (M_samples_d.d 40 rfl) (fun v h' q => ?_)
        obtain ⟨rfl, rfl⟩ := q
        refine AW.run X M_samples_d 41 9 rfl ?_
        rw [show Int32.ofInt 5 * nI k + Int32.ofInt 3 = nI (5 * k + 3) from by rw [show Int32.ofInt 5 * nI k = nI (5 * k) from pk_mul 5 k]; exact nI_add (5 * k) 3]
        refine AW.callV (As := [.int (nI f), .int (nI (5 * k + 3))]) X (M_ofq_m S M2 tl f (5 * k + 3) _ q hF2 (by omega)) cb_M_320 rfl rfl M_of_im M_of_se rfl ⟨Nat.le_of_ble_eq_true rfl, Nat.le_of_ble_eq_true rfl⟩ (Nat.le_of_ble_eq_true rfl) ⟨Nat.le_of_ble_eq_true rfl, Nat.le_of_ble_eq_true rfl⟩ (M_samples_d.d 50 rfl) (fun v h' q => ?_)
        obtain ⟨rfl, rfl⟩ := q
        refine AW.run X M_samples_d 51 7 rfl ?_
        rw [show Int32.ofInt 5 * nI k + Int32.ofInt 4 = nI (5 * k + 4) from by rw [show Int32.ofInt 5 * nI k = nI (5 * k) from pk_mul 5 k]; exact nI_add (5 * k) 4]
        refine AW.callV (As := [.int (nI f), .int (nI (5 * k + 4))]) X (M_ofq_m S M2 tl f (5 * k + 4) _ q hF2 (by omega)) cb_M_320 rfl rfl M_of_im M_of_se rfl ⟨Nat.le_of_ble_eq_true rfl, Nat.le_of_ble_eq_true rfl⟩ (Nat.le_of_ble_eq_true rfl) ⟨Nat.le_of_ble_eq_true rfl, Nat.le_of_ble_eq_true rfl⟩ (M_samples_d.d 58 rfl) (fun v h' q => ?_)
        obtain ⟨rfl, rfl⟩ := q
        refine AW.callS (As := [.long (lZ (zcut (inp k) (q (5 * k)) (q (5 * k + 1)))), .long (lZ (q (5 * k))), .long (lZ (q (5 * k + 1))), .long (lZ (q (5 * k + 3))), .long (lZ (q (5 * k + 4)))]) X (M_laid_m (zcut (inp k) (q (5 * k)) (q (5 * k + 1))) (q (5 * k)) (q (5 * k + 1)) (q (5 * k + 3)) (q (5 * k + 4)) (zcut_b (hle k hk)) (zN_L (hF.2.2 (5 * k) (by omega)).2) (zN_L (hF.2.2 (5 * k + 1) (by omega)).2) (by have h8 := (hF.2.2 (5 * k) (by omega)).2; have h9 := (hF.2.2 (5 * k + 1) (by omega)).2; have := h8.1; have := h9.2; omega) (hF.2.2 (5 * k + 3) (by omega)).2 (hF.2.2 (5 * k + 4) (by omega)).2) cb_M_324 M_laid_st rfl ⟨Nat.le_of_ble_eq_true rfl, Nat.le_of_ble_eq_true rfl⟩ (Nat.le_of_ble_eq_true rfl) ⟨Nat.le_of_ble_eq_true rfl, Nat.le_of_ble_eq_true rfl⟩ (M_samples_d.d 59 rfl) (fun v h' q => ?_)
        obtain ⟨rfl, rfl⟩ := q
        refine AW.run X M_samples_d 60 10 rfl ?_
        rw [show Int32.ofInt 5 * nI k + Int32.ofInt 2 = nI (5 * k + 2) from by rw [show Int32.ofInt 5 * nI k = nI (5 * k) from pk_mul 5 k]; exact nI_add (5 * k) 2]
        refine AW.callV (As := [.int (nI f), .int (nI (5 * k + 2))]) X (M_ofq_m S M2 tl f (5 * k + 2) _ q hF2 (by omega)) cb_M_320 rfl rfl M_of_im M_of_se rfl ⟨Nat.le_of_ble_eq_true rfl, Nat.le_of_ble_eq_true rfl⟩ (Nat.le_of_ble_eq_true rfl) ⟨Nat.le_of_ble_eq_true rfl, Nat.le_of_ble_eq_true rfl⟩ (M_samples_d.d 70 rfl) (fun v h' q => ?_)
        obtain ⟨rfl, rfl⟩ := q
        refine AW.run X M_samples_d 71 4 rfl ?_
        rw [lZ_c0, lZ_c1, lZ_sub, show (65536 : Int64) = lZ 65536 from rfl, lZ_mul]
        refine AW.callS (As := [.long (lZ (zlaid (zcut (inp k) (q (5 * k)) (q (5 * k + 1))) (q (5 * k)) (q (5 * k + 1)) (q (5 * k + 3)) (q (5 * k + 4)))), .long (lZ 0), .long (lZ ((q (5 * k + 2) - 1) * 65536))]) X (M_cutTo_m (zlaid (zcut (inp k) (q (5 * k)) (q (5 * k + 1))) (q (5 * k)) (q (5 * k + 1)) (q (5 * k + 3)) (q (5 * k + 4))) 0 ((q (5 * k + 2) - 1) * 65536) (zN_L (zlaid_N (hF.2.2 (5 * k + 3) (by omega)).2)) ⟨by decide, by decide⟩ ⟨by have := hqs k hk; omega, by have := hqs k hk; omega⟩) cb_M_104 M_cutTo_st rfl ⟨Nat.le_of_ble_eq_true rfl, Nat.le_of_ble_eq_true rfl⟩ (Nat.le_of_ble_eq_true rfl) ⟨Nat.le_of_ble_eq_true rfl, Nat.le_of_ble_eq_true rfl⟩ (M_samples_d.d 75 rfl) (fun v h' q => ?_)
        obtain ⟨rfl, rfl⟩ := q
        rw [show zcut (zlaid (zcut (inp k) (q (5 * k)) (q (5 * k + 1))) (q (5 * k)) (q (5 * k + 1)) (q (5 * k + 3)) (q (5 * k + 4))) 0 ((q (5 * k + 2) - 1) * 65536) = zst q k (inp k) from rfl]
        refine AW.run X M_samples_d 76 6 rfl ?_
        refine AW.ldiv X (M_samples_d.d 82 rfl) (by decide) ?_
        rw [show (65536 : Int64) = lZ 65536 from rfl, lZ_div (a := zst q k (inp k)) ⟨by omega, by omega⟩ ⟨by decide, by decide⟩ (Or.inr (by decide)), Int.tdiv_eq_ediv_of_nonneg hzs.1, show zst q k (inp k) / 65536 = zwh q inp k from rfl]
        refine AW.run X M_samples_d 83 1 rfl ?_
        rw [lZ_i]
        refine AW.ms10 (j := k) X rfl (by omega) (M_samples_d.d 84 rfl) ?_
        refine AW.run X M_samples_d 85 5 rfl ?_
        refine AW.lrem X (M_samples_d.d 90 rfl) (by decide) ?_
        rw [show (65536 : Int64) = lZ 65536 from rfl, lZ_div (a := zst q k (inp k)) ⟨by omega, by omega⟩ ⟨by decide, by decide⟩ (Or.inr (by decide)), lZ_mul, lZ_sub, Int.tdiv_eq_ediv_of_nonneg hzs.1, show zst q k (inp k) - zst q k (inp k) / 65536 * 65536 = zrs q inp k from by unfold zrs; omega]
        refine AW.msl1 (j := k) X rfl (by omega) (M_samples_d.d 91 rfl) ?_
        refine AW.run X M_samples_d 92 1 rfl ?_
        refine AW.goto X (M_samples_d.d 93 rfl) ?_
        refine AW.pk [0, 4, 5, 6, 7, 8] rfl ?_
        rw [nI_o1]
        exact ih1 (k + 1) _ (by omega) (by omega) ((hP2.a k _).l (k := 1) k _ (by decide)) (fun j hj => by
          rw [y_lg, show (y_l (y_a M2 10 k (iZ (zwh q inp k))) 1 k (lZ (zrs q inp k))).2.1 10 = upd (M2.2.1 10) k (iZ (zwh q inp k)) from y_ag M2 10 k (iZ (zwh q inp k))]
          by_cases z : j = k
          · rw [z, updL_s, upd_s]; exact ⟨rfl, rfl⟩
          · rw [updL_n z, upd_n z]; exact hA j (by omega))
  exact L23 (n + 1) 0 M (by omega) (by omega) (PS.refl M) (fun j hj => absurd hj (Nat.not_lt_zero j))

