/-! SAMPLES, the reference -/
theorem shl1 : ∀ n, n ≤ 3 → Int32.ofInt 1 <<< (nI n &&& 31) = nI (2 ^ n) := by decide
theorem crn : ∀ c, c < 8 → ∀ k, k < 3 → (nI c >>> (nI k &&& 31)) &&& Int32.ofInt 1 = nI (c / 2 ^ k % 2) := by decide
theorem p2_3 : ∀ n, n ≤ 3 → 2 ^ n ≤ 8 := by decide
/-- the sample at corner c -/
def zL0 (q wh bt : Nat → Int) (n m wd o c : Nat) : Int := zsm bt (((zps q wh c n).1.toNat * m + o) * wd) wd * 65536
theorem zL0_b {q wh bt : Nat → Int} {n m wd o : Nat} (h : ∀ p, 0 ≤ bt p ∧ bt p ≤ 1) (hw : wd ≤ 16) (c : Nat) : 0 ≤ zL0 q wh bt n m wd o c ∧ zL0 q wh bt n m wd o c ≤ 4294901760 := by
  have b := zsm_b h (((zps q wh c n).1.toNat * m + o) * wd) wd
  have : (2 : Int) ^ wd ≤ 65536 := by
    have : ∀ w, w ≤ 16 → (2 : Int) ^ w ≤ 65536 := by decide
    exact this wd hw
  unfold zL0
  omega
/-- what the numbers of a told table of samples must be -/
def zTl (q : Nat → Int) (n m wd : Nat) : Prop := (1 ≤ n ∧ n ≤ 3) ∧ (1 ≤ m ∧ m ≤ 4) ∧ wd ≤ 16 ∧ (∀ i, i < n → 1 ≤ q (5 * i + 2) ∧ q (5 * i + 2) ≤ 64) ∧ zsz q n * m * wd ≤ 65536
theorem zTl_a {q wh : Nat → Int} {n m wd o c : Nat} (h : zTl q n m wd) (hw : ∀ i, i < n → 0 ≤ wh i) (ho : o < m) : 0 ≤ (zps q wh c n).1 ∧ ((zps q wh c n).1.toNat * m + o + 1) * wd ≤ 65536 := by
  have b := zps_b (q := q) (wh := wh) (c := c) (n := n) (fun i l => ⟨h.2.2.2.1 i l, hw i l⟩) n (Nat.le_refl _)
  refine ⟨b.1, ?_⟩
  have s := h.2.2.2.2
  generalize (zps q wh c n).1 = p at b ⊢
  obtain ⟨p', rfl⟩ : ∃ p' : Nat, p = p' := ⟨p.toNat, by omega⟩
  have z1 : ((p' : Int) + 1) ≤ zsz q n := by omega
  have e1 : (p' + 1) * m ≤ (zsz q n).toNat * m := Nat.mul_le_mul_right m (by omega)
  have e2 : p' * m + o + 1 ≤ (p' + 1) * m := by rw [Nat.add_mul, Nat.one_mul]; omega
  have e3 : (p' * m + o + 1) * wd ≤ (zsz q n).toNat * m * wd := Nat.mul_le_mul_right wd (Nat.le_trans e2 e1)
  have e4 : (((zsz q n).toNat * m * wd : Nat) : Int) ≤ 65536 := by
    rw [Int.natCast_mul, Int.natCast_mul, Int.toNat_of_nonneg (by omega)]; exact s
  show (p' * m + o + 1) * wd ≤ 65536
  omega
theorem pl_s {p : Int} {m o : Nat} (hp : 0 ≤ p) (hm : m < 2 ^ 31) (ho : o < 2 ^ 31) : lZ p * (nI m).toInt64 + (nI o).toInt64 = lZ ((p.toNat * m + o : Nat) : Int) := by
  rw [nl_l hm, nl_l ho, lZ_mul, lZ_add]
  congr 1
  rw [Int.natCast_add, Int.natCast_mul, Int.toNat_of_nonneg hp]
theorem fd16 (x : Int) : x.fdiv 65536 = x / 65536 := Int.fdiv_eq_ediv_of_nonneg x (by decide)
theorem mid_L {a b r : Int} (ha : 0 ≤ a ∧ a ≤ 4294901760) (hb : 0 ≤ b ∧ b ≤ 4294901760) (hr : 0 ≤ r ∧ r < 65536) : zL ((b - a) * r) ∧ (b - a) * r ≠ -9223372036854775808 := by
  have h1 := Int.mul_le_mul_of_nonneg_right (show b - a ≤ 4294901760 by omega) hr.1
  have h2 := Int.mul_le_mul_of_nonneg_right (show -4294901760 ≤ b - a by omega) hr.1
  refine ⟨⟨?_, ?_⟩, ?_⟩ <;> omega
set_option maxHeartbeats 4000000 in
set_option maxRecDepth 100000 in
theorem M_interpolated_m {l : Launch} {G : ax_G} (S : x_S) (M : x_M) (tl : List va_E) (f n m wd o : Nat) (q wh Rr : Nat → Int) (hf : f < 24) (hZ : zTl q n m wd) (ho : o < m) (hF : FQ M f q (5 * n + 1 + 4 * m)) (htk : M.2.1 5 f = nI n) (hgv : M.2.1 6 f = nI m) (hw : ∀ i, i < n → M.2.1 10 i = iZ (wh i) ∧ 0 ≤ wh i ∧ wh i < 64) (hR : ∀ i, i < n → M.2.2 1 i = lZ (Rr i) ∧ 0 ≤ Rr i ∧ Rr i < 65536) :
    AM l VV G M_interpolated_y M_interpolated_c 15 (some .long) 2 0 0 [.ref 153, .int (nI f), .int (nI o), .int (nI wd)] (x_hM S M tl) (fun v h' => v = some (.long (lZ (zlv Rr (zL0 q wh (zbt (fun j => M.2.1 9 (8192 * f + j))) n m wd o) n 0))) ∧ ∃ g, h' = x_hM S (y_L M 0 g) tl) := by
  refine AM.of (pl := pl_M) (by decide) v_good fl_M_ok kl_M_ok nofun (Nat.le_of_ble_eq_true rfl) ?_
  intro p0v e0v s0v m0v args below meth c0v X
  obtain ⟨hn, hm, hwd, hqs, hbt⟩ := hZ
  have hLb := zL0_b (q := q) (wh := wh) (n := n) (m := m) (o := o) (zbt_b (fun j => M.2.1 9 (8192 * f + j))) hwd
  have hvb := zlv_b hLb n (fun i l => (hR i l).2)
  have h8 := p2_3 n hn.2
  refine AW.run X M_interpolated_d 0 3 rfl ?_
  refine AW.ml5 (j := f) X rfl (by omega) (M_interpolated_d.d 3 rfl) ?_
  rw [htk]
  refine AW.run X M_interpolated_d 4 3 rfl ?_
  have L11 : ∀ (t1 c : Nat) (g : Nat → Int64), c ≤ 2 ^ n → 2 ^ n - c < t1 → (∀ j, j < c → g j = lZ ((zL0 q wh (zbt (fun j => M.2.1 9 (8192 * f + j))) n m wd o) j)) → AW p0v l e0v (ax_R 2 0 0) s0v m0v args below meth c0v VV G 15 (x_hM S (y_L M 0 g) tl) 0 0 (MQ below (ax_Q VV G (fun v h' => v = some (.long (lZ (zlv Rr (zL0 q wh (zbt (fun j => M.2.1 9 (8192 * f + j))) n m wd o) n 0))) ∧ ∃ g, h' = x_hM S (y_L M 0 g) tl)) args s0v 0 0 (fun q => G.bs ≤ q)) 11 [(5, .int (nI c)), (4, .int (nI n)), (0, .ref 153), (1, .int (nI f)), (2, .int (nI o)), (3, .int (nI wd))] [] := by
    intro t1
    induction t1 with
    | zero => intro c g a1 a2 a3; exact absurd a2 (by omega)
    | succ t1 ih1 =>
      intro c g a1 a2 a3
      refine AW.run X M_interpolated_d 7 3 rfl ?_
      refine AW.run X M_interpolated_d 10 1 rfl ?_
      rw [shl1 n hn.2]
      refine AW.icmp_ge X (M_interpolated_d.d 11 rfl) (fun q11 => ?_) (fun q11 => ?_)
      · refine AW.run X M_interpolated_d 82 2 rfl ?_
        have L140 : ∀ (t3 i : Nat) (g : Nat → Int64), i ≤ n → n - i < t3 → (∀ j, j < 2 ^ (n - i) → g j = lZ (zlv Rr (zL0 q wh (zbt (fun j => M.2.1 9 (8192 * f + j))) n m wd o) i j)) → AW p0v l e0v (ax_R 2 0 0) s0v m0v args below meth c0v VV G 15 (x_hM S (y_L M 0 g) tl) 0 0 (MQ below (ax_Q VV G (fun v h' => v = some (.long (lZ (zlv Rr (zL0 q wh (zbt (fun j => M.2.1 9 (8192 * f + j))) n m wd o) n 0))) ∧ ∃ g, h' = x_hM S (y_L M 0 g) tl)) args s0v 0 0 (fun q => G.bs ≤ q)) 140 [(5, .int (nI i)), (4, .int (nI n)), (0, .ref 153), (1, .int (nI f)), (2, .int (nI o)), (3, .int (nI wd))] [] := by
          intro t3
          induction t3 with
          | zero => intro i g d1 d2 d3; exact absurd d2 (by omega)
          | succ t3 ih3 =>
            intro i g d1 d2 d3
            refine AW.run X M_interpolated_d 84 2 rfl ?_
            refine AW.icmp_ge X (M_interpolated_d.d 86 rfl) (fun q86 => ?_) (fun q86 => ?_)
            · have hin : i = n := by have := cge q86; omega
              refine AW.run X M_interpolated_d 132 3 rfl ?_
              refine AW.mll0 (j := 0) X rfl (by decide) (M_interpolated_d.d 135 rfl) ?_
              rw [show (y_L M 0 g).2.2 0 0 = lZ (zlv Rr (zL0 q wh (zbt (fun j => M.2.1 9 (8192 * f + j))) n m wd o) n 0) from (congrFun (y_Lg M 0 g) 0).trans (by have := d3 0 (by rw [hin, Nat.sub_self]; decide); rw [hin] at this; exact this)]
              exact AW.lret X (M_interpolated_d.d 136 rfl) (Nat.le_of_ble_eq_true rfl) (Nat.le_of_ble_eq_true rfl) ⟨rfl, g, rfl⟩
            · have hi : i < n := clt q86
              have hpw : 2 ^ (n - i) = 2 * 2 ^ (n - 1 - i) := by rw [show n - i = (n - 1 - i) + 1 by omega, Nat.pow_succ]; omega
              have hp4 : 2 ^ (n - 1 - i) ≤ 4 := by
                have : ∀ k, k ≤ 2 → 2 ^ k ≤ 4 := by decide
                exact this _ (by omega)
              refine AW.run X M_interpolated_d 87 2 rfl ?_
              have L150 : ∀ (t4 c : Nat) (g : Nat → Int64), c ≤ 2 ^ (n - 1 - i) → 2 ^ (n - 1 - i) - c < t4 → (∀ j, j < c → g j = lZ (zlv Rr (zL0 q wh (zbt (fun j => M.2.1 9 (8192 * f + j))) n m wd o) (i + 1) j)) → (∀ j, 2 * c ≤ j → j < 2 ^ (n - i) → g j = lZ (zlv Rr (zL0 q wh (zbt (fun j => M.2.1 9 (8192 * f + j))) n m wd o) i j)) → AW p0v l e0v (ax_R 2 0 0) s0v m0v args below meth c0v VV G 15 (x_hM S (y_L M 0 g) tl) 0 0 (MQ below (ax_Q VV G (fun v h' => v = some (.long (lZ (zlv Rr (zL0 q wh (zbt (fun j => M.2.1 9 (8192 * f + j))) n m wd o) n 0))) ∧ ∃ g, h' = x_hM S (y_L M 0 g) tl)) args s0v 0 0 (fun q => G.bs ≤ q)) 150 [(6, .int (nI c)), (5, .int (nI i)), (4, .int (nI n)), (0, .ref 153), (1, .int (nI f)), (2, .int (nI o)), (3, .int (nI wd))] [] := by
                intro t4
                induction t4 with
                | zero => intro c g e1 e2 e3 e4; exact absurd e2 (by omega)
                | succ t4 ih4 =>
                  intro c g e1 e2 e3 e4
                  refine AW.run X M_interpolated_d 89 7 rfl ?_
                  rw [show nI n - Int32.ofInt 1 - nI i = nI (n - 1 - i) from by rw [show nI n - Int32.ofInt 1 = nI (n - 1) from pk_sub (b := 1) hn.1]; exact pk_sub (by omega)]
                  refine AW.run X M_interpolated_d 96 1 rfl ?_
                  rw [shl1 (n - 1 - i) (by omega)]
                  refine AW.icmp_ge X (M_interpolated_d.d 97 rfl) (fun q97 => ?_) (fun q97 => ?_)
                  · refine AW.run X M_interpolated_d 130 1 rfl ?_
                    refine AW.goto X (M_interpolated_d.d 131 rfl) ?_
                    refine AW.pk [0, 2, 3, 4, 5, 6] rfl ?_
                    rw [nI_o1]
                    exact ih3 (i + 1) g (by omega) (by omega) (fun j hj => e3 j (by have := cge q97; rw [show n - (i + 1) = n - 1 - i by omega] at hj; omega))
                  · have hc : c < 2 ^ (n - 1 - i) := clt q97
                    refine AW.run X M_interpolated_d 98 5 rfl ?_
                    refine AW.mll0 (j := 2 * c) X (show Int32.ofInt 2 * nI c = nI (2 * c) from pk_mul 2 c) (by omega) (M_interpolated_d.d 103 rfl) ?_
                    rw [show (y_L M 0 g).2.2 0 (2 * c) = lZ (zlv Rr (zL0 q wh (zbt (fun j => M.2.1 9 (8192 * f + j))) n m wd o) i (2 * c)) from (congrFun (y_Lg M 0 g) (2 * c)).trans (e4 (2 * c) (by omega) (by omega))]
                    refine AW.run X M_interpolated_d 104 12 rfl ?_
                    refine AW.mll0 (j := 2 * c + 1) X (by rw [(show Int32.ofInt 2 * nI c = nI (2 * c) from pk_mul 2 c), nI_o1]) (by omega) (M_interpolated_d.d 116 rfl) ?_
                    rw [show (y_L M 0 g).2.2 0 (2 * c + 1) = lZ (zlv Rr (zL0 q wh (zbt (fun j => M.2.1 9 (8192 * f + j))) n m wd o) i (2 * c + 1)) from (congrFun (y_Lg M 0 g) (2 * c + 1)).trans (e4 (2 * c + 1) (by omega) (by omega))]
                    refine AW.run X M_interpolated_d 117 5 rfl ?_
                    refine AW.mll1 (j := i) X rfl (by omega) (M_interpolated_d.d 122 rfl) ?_
                    rw [show (y_L M 0 g).2.2 1 i = lZ (Rr i) from (hR i hi).1]
                    refine AW.run X M_interpolated_d 123 1 rfl ?_
                    rw [lZ_sub, lZ_mul]
                    refine AW.run X M_interpolated_d 124 1 rfl ?_
                    refine AW.callS (As := [.long (lZ ((zlv Rr (zL0 q wh (zbt (fun j => M.2.1 9 (8192 * f + j))) n m wd o) i (2 * c + 1) - zlv Rr (zL0 q wh (zbt (fun j => M.2.1 9 (8192 * f + j))) n m wd o) i (2 * c)) * Rr i)), .long (lZ 65536)]) X (M_down_m ((zlv Rr (zL0 q wh (zbt (fun j => M.2.1 9 (8192 * f + j))) n m wd o) i (2 * c + 1) - zlv Rr (zL0 q wh (zbt (fun j => M.2.1 9 (8192 * f + j))) n m wd o) i (2 * c)) * Rr i) 65536 (mid_L (hvb i (by omega) (2 * c)) (hvb i (by omega) (2 * c + 1)) (hR i hi).2).1 ⟨by decide, by decide⟩ (by decide) (Or.inl (mid_L (hvb i (by omega) (2 * c)) (hvb i (by omega) (2 * c + 1)) (hR i hi).2).2)) cb_M_116 M_down_st rfl ⟨Nat.le_of_ble_eq_true rfl, Nat.le_of_ble_eq_true rfl⟩ (Nat.le_of_ble_eq_true rfl) ⟨Nat.le_of_ble_eq_true rfl, Nat.le_of_ble_eq_true rfl⟩ (M_interpolated_d.d 125 rfl) (fun v h' q => ?_)
                    obtain ⟨rfl, rfl⟩ := q
                    refine AW.run X M_interpolated_d 126 1 rfl ?_
                    rw [lZ_add, fd16]
                    refine AW.msl0 (j := c) X rfl (by omega) (M_interpolated_d.d 127 rfl) ?_
                    refine AW.run X M_interpolated_d 128 1 rfl ?_
                    refine AW.goto X (M_interpolated_d.d 129 rfl) ?_
                    refine AW.pk [0, 2, 3, 4, 5, 6, 7] rfl ?_
                    rw [nI_o1, y_lL]
                    exact ih4 (c + 1) _ (by omega) (by omega) (fun j hj => by
                      by_cases z : j = c
                      · rw [z, updL_s]; rfl
                      · rw [updL_n z]; exact e3 j (by omega)) (fun j h1 h2 => by rw [updL_n (by omega)]; exact e4 j (by omega) h2)
              exact L150 (2 ^ (n - 1 - i) + 1) 0 g (by omega) (by omega) (fun j hj => absurd hj (Nat.not_lt_zero j)) (fun j _ hj => d3 j hj)
        exact L140 (n + 1) 0 g (by omega) (by omega) (fun j hj => a3 j (by have := cge q11; rw [Nat.sub_zero] at hj; omega))
      · have hc : c < 2 ^ n := clt q11
        refine AW.run X M_interpolated_d 12 6 rfl ?_
        have L29 : ∀ (t2 k : Nat), k ≤ n → n - k < t2 → AW p0v l e0v (ax_R 2 0 0) s0v m0v args below meth c0v VV G 15 (x_hM S (y_L M 0 g) tl) 0 0 (MQ below (ax_Q VV G (fun v h' => v = some (.long (lZ (zlv Rr (zL0 q wh (zbt (fun j => M.2.1 9 (8192 * f + j))) n m wd o) n 0))) ∧ ∃ g, h' = x_hM S (y_L M 0 g) tl)) args s0v 0 0 (fun q => G.bs ≤ q)) 29 [(10, .int (nI k)), (8, .long (lZ (zps q wh c k).2)), (6, .long (lZ (zps q wh c k).1)), (5, .int (nI c)), (4, .int (nI n)), (0, .ref 153), (1, .int (nI f)), (2, .int (nI o)), (3, .int (nI wd))] [] := by
          intro t2
          induction t2 with
          | zero => intro k b1 b2; exact absurd b2 (by omega)
          | succ t2 ih2 =>
            intro k b1 b2
            refine AW.run X M_interpolated_d 18 2 rfl ?_
            refine AW.icmp_ge X (M_interpolated_d.d 20 rfl) (fun q20 => ?_) (fun q20 => ?_)
            · have hkn : k = n := by have := cge q20; omega
              rw [hkn]
              have hap := zTl_a (c := c) (o := o) ⟨hn, hm, hwd, hqs, hbt⟩ (fun i l => (hw i l).2.1) ho
              refine AW.run X M_interpolated_d 62 9 rfl ?_
              refine AW.ml6 (j := f) X rfl (by omega) (M_interpolated_d.d 71 rfl) ?_
              rw [show (y_L M 0 g).2.1 6 f = nI m from hgv]
              refine AW.run X M_interpolated_d 72 4 rfl ?_
              refine AW.run X M_interpolated_d 76 1 rfl ?_
              rw [pl_s (p := (zps q wh c n).1) (m := m) (o := o) hap.1 (by omega) (by omega)]
              refine AW.run X M_interpolated_d 77 1 rfl ?_
              refine AW.callV (As := [.int (nI f), .long (lZ (((zps q wh c n).1.toNat * m + o) : Nat)), .int (nI wd)]) X (M_sampleAt_m S (y_L M 0 g) tl f ((zps q wh c n).1.toNat * m + o) wd hf hap.2 hwd) cb_M_342 rfl rfl M_sampleAt_im M_sampleAt_se rfl ⟨Nat.le_of_ble_eq_true rfl, Nat.le_of_ble_eq_true rfl⟩ (Nat.le_of_ble_eq_true rfl) ⟨Nat.le_of_ble_eq_true rfl, Nat.le_of_ble_eq_true rfl⟩ (M_interpolated_d.d 78 rfl) (fun v h' q => ?_)
              obtain ⟨rfl, rfl⟩ := q
              refine AW.msl0 (j := c) X rfl (by omega) (M_interpolated_d.d 79 rfl) ?_
              refine AW.run X M_interpolated_d 80 1 rfl ?_
              refine AW.goto X (M_interpolated_d.d 81 rfl) ?_
              refine AW.pk [0, 4, 5, 6, 7, 8] rfl ?_
              rw [nI_o1, y_lL]
              exact ih1 (c + 1) _ (by omega) (by omega) (fun j hj => by
                by_cases z : j = c
                · rw [z, updL_s]; rfl
                · rw [updL_n z]; exact a3 j (by omega))
            · have hk : k < n := clt q20
              refine AW.run X M_interpolated_d 21 7 rfl ?_
              rw [show Int32.ofInt 5 * nI k + Int32.ofInt 2 = nI (5 * k + 2) from by rw [show Int32.ofInt 5 * nI k = nI (5 * k) from pk_mul 5 k]; exact nI_add (5 * k) 2]
              refine AW.callV (As := [.int (nI f), .int (nI (5 * k + 2))]) X (M_ofq_m S (y_L M 0 g) tl f (5 * k + 2) _ q ⟨hF.1, hF.2.1, hF.2.2⟩ (by omega)) cb_M_320 rfl rfl M_of_im M_of_se rfl ⟨Nat.le_of_ble_eq_true rfl, Nat.le_of_ble_eq_true rfl⟩ (Nat.le_of_ble_eq_true rfl) ⟨Nat.le_of_ble_eq_true rfl, Nat.le_of_ble_eq_true rfl⟩ (M_interpolated_d.d 28 rfl) (fun v h' q => ?_)
              obtain ⟨rfl, rfl⟩ := q
              refine AW.run X M_interpolated_d 29 4 rfl ?_
              refine AW.ml10 (j := k) X rfl (by omega) (M_interpolated_d.d 33 rfl) ?_
              rw [show (y_L M 0 g).2.1 10 k = iZ (wh k) from (hw k hk).1]
              refine AW.run X M_interpolated_d 34 4 rfl ?_
              refine AW.run X M_interpolated_d 38 1 rfl ?_
              rw [crn c (by omega) k (by omega)]
              refine AW.run X M_interpolated_d 39 1 rfl ?_
              rw [iZ_n (c / 2 ^ k % 2), iZ_add]
              refine AW.run X M_interpolated_d 40 1 rfl ?_
              rw [iZ_l (z := wh k + ((c / 2 ^ k % 2 : Nat) : Int)) ⟨by have := (hw k hk).2; omega, by have := (hw k hk).2; omega⟩]
              refine AW.run X M_interpolated_d 41 6 rfl ?_
              have J88 : ∀ (z : Int64), z = lZ (zco q wh c k) → AW p0v l e0v (ax_R 2 0 0) s0v m0v args below meth c0v VV G 15 (x_hM S (y_L M 0 g) tl) 0 0 (MQ below (ax_Q VV G (fun v h' => v = some (.long (lZ (zlv Rr (zL0 q wh (zbt (fun j => M.2.1 9 (8192 * f + j))) n m wd o) n 0))) ∧ ∃ g, h' = x_hM S (y_L M 0 g) tl)) args s0v 0 0 (fun q => G.bs ≤ q)) 88 [(13, .long (lZ (wh k + ((c / 2 ^ k % 2 : Nat) : Int)))), (11, .long (lZ (q (5 * k + 2)))), (10, .int (nI k)), (8, .long (lZ (zps q wh c k).2)), (6, .long (lZ (zps q wh c k).1)), (5, .int (nI c)), (4, .int (nI n)), (0, .ref 153), (1, .int (nI f)), (2, .int (nI o)), (3, .int (nI wd))] [.long z, .long (lZ (zps q wh c k).2), .long (lZ (zps q wh c k).1)] := by
                intro z hz; subst hz
                refine AW.run X M_interpolated_d 53 2 rfl ?_
                rw [lZ_mul, lZ_add]
                refine AW.run X M_interpolated_d 55 3 rfl ?_
                refine AW.run X M_interpolated_d 58 1 rfl ?_
                rw [lZ_mul]
                refine AW.run X M_interpolated_d 59 2 rfl ?_
                refine AW.goto X (M_interpolated_d.d 61 rfl) ?_
                refine AW.pk [0, 1, 2, 5, 6, 7, 8, 9, 10] rfl ?_
                rw [nI_o1]
                exact ih2 (k + 1) (by omega) (by omega)
              refine AW.if_ge X (M_interpolated_d.d 47 rfl) (fun q47 => ?_) (fun q47 => ?_)
              · refine AW.run X M_interpolated_d 50 3 rfl ?_
                exact J88 _ (by unfold zco; rw [if_neg (by have := (lc_ge (a := wh k + ((c / 2 ^ k % 2 : Nat) : Int)) (b := q (5 * k + 2)) ⟨by have := (hw k hk).2; omega, by have := (hw k hk).2; omega⟩ (zN_L (hF.2.2 _ (by omega)).2)).mp q47; omega), lZ_c1, lZ_sub])
              · refine AW.run X M_interpolated_d 48 1 rfl ?_
                refine AW.goto X (M_interpolated_d.d 49 rfl) ?_
                exact J88 _ (by unfold zco; rw [if_pos (Int.not_le.mp (mt (lc_ge (a := wh k + ((c / 2 ^ k % 2 : Nat) : Int)) (b := q (5 * k + 2)) ⟨by have := (hw k hk).2; omega, by have := (hw k hk).2; omega⟩ (zN_L (hF.2.2 _ (by omega)).2)).mpr q47))])
        rw [lZ_c0, lZ_c1]
        exact L29 (n + 1) 0 (by omega) (by omega)
  exact AW.eq (h' := x_hM S (y_L M 0 (M.2.2 0)) tl) (by rw [y_L0]) (L11 (2 ^ n + 1) 0 (M.2.2 0) (Nat.zero_le _) (Nat.lt_succ_of_le (Nat.sub_le _ _)) (fun j hj => absurd hj (Nat.not_lt_zero j)))

