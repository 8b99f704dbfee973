set_option maxHeartbeats 4000000 in
set_option maxRecDepth 100000 in
theorem S_between_m {l : Launch} {G : ax_G} (S : x_S) (tl : List va_E) (a b cb x n m wd N : Nat) (q : Nat → Int) (Bt : Nat → Int32) (hO : tl[a]? = some (sOb (153 + cb) x (153 + b) n m wd)) (hD : DQ tl b q (5 * n + 1 + 4 * m)) (hB : tl[cb]? = some (.inl (1, N, .inl Bt))) (hA : a < x ∨ x + 2 < a) (hBx : b < x ∨ x + 2 < b) (hCx : cb < x ∨ x + 2 < cb) (hx : x + 2 < tl.length) (hn : 1 ≤ n ∧ n ≤ 3) (hm : 1 ≤ m ∧ m ≤ 4) (hwd : wd ≤ 16) (hqs : ∀ i, i < n → 1 ≤ q (5 * i + 2) ∧ q (5 * i + 2) ≤ 64) (hN : N ≤ 8192) (hNb : zsz q n * m * wd ≤ ((8 * N : Nat) : Int)) (W Rs : Nat → Int32) (C : Nat → Int64) (wh Rr : Nat → Int) (o : Nat) (ho : o < m) (hw : ∀ i, i < n → W i = iZ (wh i) ∧ 0 ≤ wh i ∧ wh i < 64) (hR : ∀ i, i < n → Rs i = iZ (Rr i) ∧ 0 ≤ Rr i ∧ Rr i < 65536) :
    AM l VV G S_between_y S_between_c 9 (some .long) 2 0 0 [.ref (153 + a), .int (nI o)] (x_hC S (sT tl x W Rs C)) (fun v h' => v = some (.long (lZ (zlv Rr (zL0 q wh (zbt Bt) n m wd o) n 0))) ∧ ∃ C', h' = x_hC S (sT tl x W Rs C')) := by
  refine AM.of (pl := pl_S) (by decide) v_good fl_S_ok kl_S_ok nofun (Nat.le_of_ble_eq_true rfl) ?_
  intro p0v e0v s0v m0v args below meth c0v X
  obtain ⟨hL, T, hT, hQ⟩ := hD
  have hLb := zL0_b (q := q) (wh := wh) (n := n) (m := m) (o := o) (zbt_b Bt) hwd
  have hvb := zlv_b hLb n (fun i l => (hR i l).2)
  have h8 := p2_3 n hn.2
  refine AW.run X S_between_d 0 2 rfl ?_
  refine AW.get X ((x_tl _ _ a).trans ((sT_o hA).trans hO)) rfl rfl (S_between_d.d 2 rfl) ?_
  refine AW.run X S_between_d 3 1 rfl ?_
  rw [shl1 n hn.2]
  refine AW.run X S_between_d 4 3 rfl ?_
  have L9 : ∀ (t1 c : Nat) (C : Nat → Int64), c ≤ 2 ^ n → 2 ^ n - c < t1 → (∀ j, j < c → C j = lZ ((zL0 q wh (zbt Bt) n m wd o) j)) → AW p0v l e0v (ax_R 2 0 0) s0v m0v args below meth c0v VV G 9 (x_hC S (sT tl x W Rs C)) 0 0 (MQ below (ax_Q VV G (fun v h' => v = some (.long (lZ (zlv Rr (zL0 q wh (zbt Bt) n m wd o) n 0))) ∧ ∃ C', h' = x_hC S (sT tl x W Rs C'))) args s0v 0 0 (fun q => G.bs ≤ q)) 9 [(3, .int (nI c)), (2, .int (nI (2 ^ n))), (0, .ref (153 + a)), (1, .int (nI o))] [] := by
    intro t1
    induction t1 with
    | zero => intro c C a1 a2 a3; exact absurd a2 (by omega)
    | succ t1 ih1 =>
      intro c C a1 a2 a3
      refine AW.run X S_between_d 7 2 rfl ?_
      refine AW.icmp_ge X (S_between_d.d 9 rfl) (fun q9 => ?_) (fun q9 => ?_)
      · refine AW.run X S_between_d 28 2 rfl ?_
        have L48 : ∀ (t3 i : Nat) (C : Nat → Int64), i ≤ n → n - i < t3 → (∀ j, j < 2 ^ (n - i) → C j = lZ (zlv Rr (zL0 q wh (zbt Bt) n m wd o) i j)) → AW p0v l e0v (ax_R 2 0 0) s0v m0v args below meth c0v VV G 9 (x_hC S (sT tl x W Rs C)) 0 0 (MQ below (ax_Q VV G (fun v h' => v = some (.long (lZ (zlv Rr (zL0 q wh (zbt Bt) n m wd o) n 0))) ∧ ∃ C', h' = x_hC S (sT tl x W Rs C'))) args s0v 0 0 (fun q => G.bs ≤ q)) 48 [(3, .int (nI i)), (2, .int (nI (2 ^ (n - i)))), (0, .ref (153 + a)), (1, .int (nI o))] [] := by
          intro t3
          induction t3 with
          | zero => intro i C d1 d2 d3; exact absurd d2 (by omega)
          | succ t3 ih3 =>
            intro i C d1 d2 d3
            refine AW.run X S_between_d 30 2 rfl ?_
            refine AW.get X ((x_tl _ _ a).trans ((sT_o hA).trans hO)) rfl rfl (S_between_d.d 32 rfl) ?_
            refine AW.icmp_ge X (S_between_d.d 33 rfl) (fun q33 => ?_) (fun q33 => ?_)
            · have hin : i = n := by have := cge q33; omega
              refine AW.run X S_between_d 80 1 rfl ?_
              refine AW.get X ((x_tl _ _ a).trans ((sT_o hA).trans hO)) rfl rfl (S_between_d.d 81 rfl) ?_
              refine AW.run X S_between_d 82 1 rfl ?_
              refine AW.lald (j := 0) X ((x_tl _ _ (x + 2)).trans (sT_c hx)) rfl rfl (by decide) (by decide) (S_between_d.d 83 rfl) ?_
              rw [show C 0 = lZ (zlv Rr (zL0 q wh (zbt Bt) n m wd o) n 0) from by have := d3 0 (by rw [hin, Nat.sub_self]; decide); rw [hin] at this; exact this]
              exact AW.lret X (S_between_d.d 84 rfl) (Nat.le_of_ble_eq_true rfl) (Nat.le_of_ble_eq_true rfl) ⟨rfl, C, rfl⟩
            · have hi : i < n := clt q33
              have hpw : 2 ^ (n - i) = 2 * 2 ^ (n - 1 - i) := by rw [show n - i = (n - 1 - i) + 1 by omega, Nat.pow_succ]; omega
              have hp4 : 2 ^ (n - 1 - i) ≤ 4 := by
                have : ∀ k, k ≤ 2 → 2 ^ k ≤ 4 := by decide
                exact this _ (by omega)
              refine AW.run X S_between_d 34 2 rfl ?_
              refine AW.idiv X (S_between_d.d 36 rfl) (by decide) ?_
              rw [hpw, show Int32.ofInt 2 = nI 2 from rfl, pk_div (by omega) (by decide) (by decide), Nat.mul_div_cancel_left _ (by decide)]
              refine AW.run X S_between_d 37 3 rfl ?_
              have L63 : ∀ (t4 c : Nat) (C : Nat → Int64), c ≤ 2 ^ (n - 1 - i) → 2 ^ (n - 1 - i) - c < t4 → (∀ j, j < c → C j = lZ (zlv Rr (zL0 q wh (zbt Bt) n m wd o) (i + 1) j)) → (∀ j, 2 * c ≤ j → j < 2 ^ (n - i) → C j = lZ (zlv Rr (zL0 q wh (zbt Bt) n m wd o) i j)) → AW p0v l e0v (ax_R 2 0 0) s0v m0v args below meth c0v VV G 9 (x_hC S (sT tl x W Rs C)) 0 0 (MQ below (ax_Q VV G (fun v h' => v = some (.long (lZ (zlv Rr (zL0 q wh (zbt Bt) n m wd o) n 0))) ∧ ∃ C', h' = x_hC S (sT tl x W Rs C'))) args s0v 0 0 (fun q => G.bs ≤ q)) 63 [(4, .int (nI c)), (2, .int (nI (2 ^ (n - 1 - i)))), (3, .int (nI i)), (0, .ref (153 + a)), (1, .int (nI o))] [] := by
                intro t4
                induction t4 with
                | zero => intro c C e1 e2 e3 e4; exact absurd e2 (by omega)
                | succ t4 ih4 =>
                  intro c C e1 e2 e3 e4
                  refine AW.run X S_between_d 40 2 rfl ?_
                  refine AW.icmp_ge X (S_between_d.d 42 rfl) (fun q42 => ?_) (fun q42 => ?_)
                  · refine AW.run X S_between_d 78 1 rfl ?_
                    refine AW.goto X (S_between_d.d 79 rfl) ?_
                    refine AW.pk [0, 2, 3, 4] rfl ?_
                    rw [nI_o1, show n - 1 - i = n - (i + 1) by omega]
                    exact ih3 (i + 1) C (by omega) (by omega) (fun j hj => e3 j (by have := cge q42; rw [show n - (i + 1) = n - 1 - i by omega] at hj; omega))
                  · have hc : c < 2 ^ (n - 1 - i) := clt q42
                    refine AW.run X S_between_d 43 1 rfl ?_
                    refine AW.get X ((x_tl _ _ a).trans ((sT_o hA).trans hO)) rfl rfl (S_between_d.d 44 rfl) ?_
                    refine AW.run X S_between_d 45 3 rfl ?_
                    refine AW.lald (j := 2 * c) X ((x_tl _ _ (x + 2)).trans (sT_c hx)) rfl (show Int32.ofInt 2 * nI c = nI (2 * c) from pk_mul 2 c) (by omega) (by decide) (S_between_d.d 48 rfl) ?_
                    rw [e4 (2 * c) (by omega) (by omega)]
                    refine AW.run X S_between_d 49 2 rfl ?_
                    refine AW.get X ((x_tl _ _ a).trans ((sT_o hA).trans hO)) rfl rfl (S_between_d.d 51 rfl) ?_
                    refine AW.run X S_between_d 52 5 rfl ?_
                    refine AW.lald (j := 2 * c + 1) X ((x_tl _ _ (x + 2)).trans (sT_c hx)) rfl (by rw [(show Int32.ofInt 2 * nI c = nI (2 * c) from pk_mul 2 c), nI_o1]) (by omega) (by decide) (S_between_d.d 57 rfl) ?_
                    rw [e4 (2 * c + 1) (by omega) (by omega)]
                    refine AW.run X S_between_d 58 2 rfl ?_
                    refine AW.get X ((x_tl _ _ a).trans ((sT_o hA).trans hO)) rfl rfl (S_between_d.d 60 rfl) ?_
                    refine AW.run X S_between_d 61 6 rfl ?_
                    refine AW.get X ((x_tl _ _ a).trans ((sT_o hA).trans hO)) rfl rfl (S_between_d.d 67 rfl) ?_
                    refine AW.run X S_between_d 68 1 rfl ?_
                    refine AW.iald (j := i) X ((x_tl _ _ (x + 1)).trans (sT_r hx)) rfl rfl (by omega) (by decide) (S_between_d.d 69 rfl) ?_
                    rw [(hR i hi).1]
                    refine AW.run X S_between_d 70 1 rfl ?_
                    refine AW.run X S_between_d 71 1 rfl ?_
                    rw [lZ_sub, iZ_l (z := Rr i) ⟨by have := (hR i hi).2; omega, by have := (hR i hi).2; omega⟩, lZ_mul]
                    refine AW.run X S_between_d 72 2 rfl ?_
                    refine AW.run X S_between_d 74 1 rfl ?_
                    rw [lZ_sar _ 16 (by decide) (mid_L (hvb i (by omega) (2 * c)) (hvb i (by omega) (2 * c + 1)) (hR i hi).2).1, lZ_add, show ((2 : Int) ^ 16) = 65536 from rfl, fd16]
                    refine AW.last (j := c) X ((x_tl _ _ (x + 2)).trans (sT_c hx)) rfl (by show 132 ≤ 153 + _; omega) rfl (by omega) (by decide) (S_between_d.d 75 rfl) ?_
                    rw [x_set, sT_sc]
                    refine AW.run X S_between_d 76 1 rfl ?_
                    refine AW.goto X (S_between_d.d 77 rfl) ?_
                    refine AW.pk [0, 3, 4, 5, 6] rfl ?_
                    rw [nI_o1]
                    exact ih4 (c + 1) _ (by omega) (by omega) (fun j hj => by
                      by_cases z : j = c
                      · rw [z, updL_s]; rfl
                      · rw [updL_n z]; exact e3 j (by omega)) (fun j h1 h2 => by rw [updL_n (by omega)]; exact e4 j (by omega) h2)
              exact L63 (2 ^ (n - 1 - i) + 1) 0 C (Nat.zero_le _) (Nat.lt_succ_of_le (Nat.sub_le _ _)) (fun j hj => absurd hj (Nat.not_lt_zero j)) (fun j _ hj => d3 j hj)
        exact L48 (n + 1) 0 C (by omega) (by omega) (fun j hj => a3 j (by have := cge q9; rw [Nat.sub_zero] at hj; omega))
      · have hc : c < 2 ^ n := clt q9
        have hap := zTl_n (c := c) (o := o) hqs hNb (fun i l => (hw i l).2.1) ho
        refine AW.run X S_between_d 10 1 rfl ?_
        refine AW.get X ((x_tl _ _ a).trans ((sT_o hA).trans hO)) rfl rfl (S_between_d.d 11 rfl) ?_
        refine AW.run X S_between_d 12 4 rfl ?_
        refine AW.callV (As := [.int (nI c)]) X (S_placeOf_m (153 + a) (153 + cb) x (153 + b) n m wd (5 * n + 1 + 4 * m) q wh T W c ((x_tl _ _ a).trans ((sT_o hA).trans hO)) ((x_tl _ _ b).trans ((sT_o hBx).trans hT)) ⟨by omega, hL⟩ hQ ((x_tl _ _ x).trans (sT_w hx)) hn (by omega) hw) cb_S_64 ((x_tl _ _ a).trans ((sT_o hA).trans hO)) rfl S_placeOf_im S_placeOf_se rfl ⟨Nat.le_of_ble_eq_true rfl, Nat.le_of_ble_eq_true rfl⟩ (Nat.le_of_ble_eq_true rfl) ⟨Nat.le_of_ble_eq_true rfl, Nat.le_of_ble_eq_true rfl⟩ (S_between_d.d 16 rfl) (fun v h' q => ?_)
        obtain ⟨rfl, rfl⟩ := q
        refine AW.run X S_between_d 17 1 rfl ?_
        refine AW.get X ((x_tl _ _ a).trans ((sT_o hA).trans hO)) rfl rfl (S_between_d.d 18 rfl) ?_
        refine AW.run X S_between_d 19 2 rfl ?_
        refine AW.run X S_between_d 21 1 rfl ?_
        rw [show iZ (zpd q wh c n n) = iZ (zps q wh c n).1 from by rw [zps_zpd hn.1 hn.2], ip_s hap.1]
        refine AW.callV (As := [.int (nI ((zps q wh c n).1.toNat * m + o))]) X (S_sample_m (153 + a) (153 + cb) x (153 + b) n m wd N Bt ((x_tl _ _ a).trans ((sT_o hA).trans hO)) ((x_tl _ _ cb).trans ((sT_o hCx).trans hB)) hN hwd ((zps q wh c n).1.toNat * m + o) hap.2) cb_S_68 ((x_tl _ _ a).trans ((sT_o hA).trans hO)) rfl S_sample_im S_sample_se rfl ⟨Nat.le_of_ble_eq_true rfl, Nat.le_of_ble_eq_true rfl⟩ (Nat.le_of_ble_eq_true rfl) ⟨Nat.le_of_ble_eq_true rfl, Nat.le_of_ble_eq_true rfl⟩ (S_between_d.d 22 rfl) (fun v h' q => ?_)
        obtain ⟨rfl, rfl⟩ := q
        refine AW.run X S_between_d 23 1 rfl ?_
        refine AW.run X S_between_d 24 1 rfl ?_
        rw [show (65536 : Int64) = lZ 65536 from rfl, lZ_mul]
        refine AW.last (j := c) X ((x_tl _ _ (x + 2)).trans (sT_c hx)) rfl (by show 132 ≤ 153 + _; omega) rfl (by omega) (by decide) (S_between_d.d 25 rfl) ?_
        rw [x_set, sT_sc]
        refine AW.run X S_between_d 26 1 rfl ?_
        refine AW.goto X (S_between_d.d 27 rfl) ?_
        rw [nI_o1]
        exact ih1 (c + 1) _ (by omega) (by omega) (fun j hj => by
          by_cases z : j = c
          · rw [z, updL_s]; rfl
          · rw [updL_n z]; exact a3 j (by omega))
  exact L9 (2 ^ n + 1) 0 C (Nat.zero_le _) (Nat.lt_succ_of_le (Nat.sub_le _ _)) (fun j hj => absurd hj (Nat.not_lt_zero j))

set_option maxHeartbeats 4000000 in
set_option maxRecDepth 100000 in
theorem S_evaluate_m {l : Launch} {G : ax_G} (S : x_S) (tl : List va_E) (a b cb x n m wd N : Nat) (q : Nat → Int) (Bt : Nat → Int32) (hO : tl[a]? = some (sOb (153 + cb) x (153 + b) n m wd)) (hD : DQ tl b q (5 * n + 1 + 4 * m)) (hB : tl[cb]? = some (.inl (1, N, .inl Bt))) (hA : a < x ∨ x + 2 < a) (hBx : b < x ∨ x + 2 < b) (hCx : cb < x ∨ x + 2 < cb) (hx : x + 2 < tl.length) (hn : 1 ≤ n ∧ n ≤ 3) (hm : 1 ≤ m ∧ m ≤ 4) (hwd : wd ≤ 16) (hqs : ∀ i, i < n → 1 ≤ q (5 * i + 2) ∧ q (5 * i + 2) ≤ 64) (hN : N ≤ 8192) (hNb : zsz q n * m * wd ≤ ((8 * N : Nat) : Int)) (W Rs : Nat → Int32) (C : Nat → Int64) (inp : Nat → Int) (dd : Nat) (hdd : 6 ≤ dd) (h5 : q (5 * n) = wd) (hle : ∀ k, k < n → q (5 * k) ≤ q (5 * k + 1)) (hlo : ∀ k, k < m → q (5 * n + 1 + 4 * k) ≤ q (5 * n + 1 + 4 * k + 1)) (hin : ∀ k, k < n → zN (inp k) ∧ S.2.1 4 k = iZ (inp k)) :
    AM l VV G S_evaluate_y S_evaluate_c 9 none dd 0 0 [.ref (153 + a), .ref 139, .ref 138, .ref 140] (x_hC S (sT tl x W Rs C)) (fun v h' => v = none ∧ ∃ g W' R' C', h' = x_hC (x_A S 3 g) (sT tl x W' R' C') ∧ (∀ j, j < m → g j = iZ (zSm q (zbt Bt) n m j inp)) ∧ ∀ j, m ≤ j → g j = S.2.1 3 j) := by
  refine AM.of (pl := pl_S) (by decide) v_good fl_S_ok kl_S_ok nofun (Nat.le_of_ble_eq_true rfl) ?_
  intro p0v e0v s0v m0v args below meth c0v X
  obtain ⟨hL, T, hT, hQ⟩ := hD
  have hmb := most_b hwd
  refine AW.run X S_evaluate_d 0 2 rfl ?_
  have L3 : ∀ (t1 k : Nat) (W Rs : Nat → Int32), k ≤ n → n - k < t1 → (∀ j, j < k → W j = iZ (zwh q inp j) ∧ Rs j = iZ (zrs q inp j)) → AW p0v l e0v (ax_R dd 0 0) s0v m0v args below meth c0v VV G 9 (x_hC S (sT tl x W Rs C)) 0 0 (MQ below (ax_Q VV G (fun v h' => v = none ∧ ∃ g W' R' C', h' = x_hC (x_A S 3 g) (sT tl x W' R' C') ∧ (∀ j, j < m → g j = iZ (zSm q (zbt Bt) n m j inp)) ∧ ∀ j, m ≤ j → g j = S.2.1 3 j)) args s0v 0 0 (fun q => G.bs ≤ q)) 3 [(4, .int (nI k)), (0, .ref (153 + a)), (1, .ref 139), (2, .ref 138), (3, .ref 140)] [] := by
    intro t1
    induction t1 with
    | zero => intro k W Rs a1 a2 a3; exact absurd a2 (by omega)
    | succ t1 ih1 =>
      intro k W Rs a1 a2 a3
      refine AW.run X S_evaluate_d 2 2 rfl ?_
      refine AW.get X ((x_tl _ _ a).trans ((sT_o hA).trans hO)) rfl rfl (S_evaluate_d.d 4 rfl) ?_
      refine AW.icmp_ge X (S_evaluate_d.d 5 rfl) (fun q5 => ?_) (fun q5 => ?_)
      · have hA3 : ∀ j, j < n → W j = iZ (zwh q inp j) ∧ Rs j = iZ (zrs q inp j) := fun j hj => a3 j (by have := cge q5; omega)
        refine AW.run X S_evaluate_d 14 2 rfl ?_
        refine AW.get X ((x_tl _ _ a).trans ((sT_o hA).trans hO)) rfl rfl (S_evaluate_d.d 16 rfl) ?_
        refine AW.run X S_evaluate_d 17 4 rfl ?_
        refine AW.run X S_evaluate_d 21 1 rfl ?_
        rw [most_w wd hwd]
        refine AW.run X S_evaluate_d 22 3 rfl ?_
        have L45 : ∀ (t2 k : Nat) (g : Nat → Int32) (C : Nat → Int64), k ≤ m → m - k < t2 → (∀ j, j < k → g j = iZ (zSm q (zbt Bt) n m j inp)) → (∀ j, k ≤ j → g j = S.2.1 3 j) → AW p0v l e0v (ax_R dd 0 0) s0v m0v args below meth c0v VV G 9 (x_hC (x_A S 3 g) (sT tl x W Rs C)) 0 0 (MQ below (ax_Q VV G (fun v h' => v = none ∧ ∃ g W' R' C', h' = x_hC (x_A S 3 g) (sT tl x W' R' C') ∧ (∀ j, j < m → g j = iZ (zSm q (zbt Bt) n m j inp)) ∧ ∀ j, m ≤ j → g j = S.2.1 3 j)) args s0v 0 0 (fun q => G.bs ≤ q)) 45 [(6, .int (nI k)), (4, .long (lZ ((2 ^ wd - 1) * 65536))), (0, .ref (153 + a)), (1, .ref 139), (2, .ref 138), (3, .ref 140)] [] := by
          intro t2
          induction t2 with
          | zero => intro k g C b1 b2 b3 b4; exact absurd b2 (by omega)
          | succ t2 ih2 =>
            intro k g C b1 b2 b3 b4
            refine AW.run X S_evaluate_d 25 2 rfl ?_
            refine AW.get X ((x_tl _ _ a).trans ((sT_o hA).trans hO)) rfl rfl (S_evaluate_d.d 27 rfl) ?_
            refine AW.icmp_ge X (S_evaluate_d.d 28 rfl) (fun q28 => ?_) (fun q28 => ?_)
            · exact AW.vret X (S_evaluate_d.d 70 rfl) (Nat.le_of_ble_eq_true rfl) (Nat.le_of_ble_eq_true rfl) ⟨rfl, g, W, Rs, C, rfl, fun j hj => b3 j (by have := cge q28; omega), fun j hj => b4 j (by have := cge q28; omega)⟩
            · have hk : k < m := clt q28
              have hzv : 0 ≤ zlv (zrs q inp) (zL0 q (zwh q inp) (zbt Bt) n m wd k) n 0 ∧ zlv (zrs q inp) (zL0 q (zwh q inp) (zbt Bt) n m wd k) n 0 ≤ (2 ^ wd - 1) * 65536 := zlv_b (fun c => by
                have := zsm_b (zbt_b Bt) (((zps q (zwh q inp) c n).1.toNat * m + k) * wd) wd
                unfold zL0
                omega) n (fun i _ => zrs_b q inp i) n (Nat.le_refl _) 0
              refine AW.run X S_evaluate_d 29 2 rfl ?_
              refine AW.get X ((x_tl _ _ a).trans ((sT_o hA).trans hO)) rfl rfl (S_evaluate_d.d 31 rfl) ?_
              refine AW.run X S_evaluate_d 32 6 rfl ?_
              refine AW.run X S_evaluate_d 38 1 rfl ?_
              rw [show Int32.ofInt 5 * nI n + Int32.ofInt 1 + Int32.ofInt 4 * nI k = nI (5 * n + 1 + 4 * k) from by rw [show Int32.ofInt 5 * nI n = nI (5 * n) from pk_mul 5 n, nI_o1, show Int32.ofInt 4 * nI k = nI (4 * k) from pk_mul 4 k, nI_add]]
              refine AW.run X S_evaluate_d 39 3 rfl ?_
              refine AW.callV (As := [.int (nI k)]) X (S_between_m (x_A S 3 g) tl a b cb x n m wd N q Bt hO ⟨hL, T, hT, hQ⟩ hB hA hBx hCx hx hn hm hwd hqs hN hNb W Rs C (zwh q inp) (zrs q inp) k hk (fun i l => ⟨(hA3 i l).1, zwh_b (hqs i l)⟩) (fun i l => ⟨(hA3 i l).2, zrs_b q inp i⟩)) cb_S_42 ((x_tl _ _ a).trans ((sT_o hA).trans hO)) rfl S_between_im S_between_se rfl ⟨by show _ ≤ dd; omega, by show _ ≤ 40 * (dd); omega⟩ (Nat.le_of_ble_eq_true rfl) ⟨Nat.le_of_ble_eq_true rfl, Nat.le_of_ble_eq_true rfl⟩ (S_evaluate_d.d 42 rfl) (fun v h' q => ?_)
              obtain ⟨rfl, C2, rfl⟩ := q
              refine AW.run X S_evaluate_d 43 3 rfl ?_
              refine AW.get X ((x_tl _ _ a).trans ((sT_o hA).trans hO)) rfl rfl (S_evaluate_d.d 46 rfl) ?_
              refine AW.run X S_evaluate_d 47 3 rfl ?_
              refine AW.iald (j := 5 * n + 1 + 4 * k + 2) X ((x_tl _ _ b).trans ((sT_o hBx).trans hT)) rfl (show nI (5 * n + 1 + 4 * k) + Int32.ofInt 2 = nI (5 * n + 1 + 4 * k + 2) from nI_add (5 * n + 1 + 4 * k) 2) (by omega) (by omega) (S_evaluate_d.d 50 rfl) ?_
              rw [(hQ (5 * n + 1 + 4 * k + 2) (by omega)).1]
              refine AW.run X S_evaluate_d 51 2 rfl ?_
              refine AW.get X ((x_tl _ _ a).trans ((sT_o hA).trans hO)) rfl rfl (S_evaluate_d.d 53 rfl) ?_
              refine AW.run X S_evaluate_d 54 3 rfl ?_
              refine AW.iald (j := 5 * n + 1 + 4 * k + 3) X ((x_tl _ _ b).trans ((sT_o hBx).trans hT)) rfl (show nI (5 * n + 1 + 4 * k) + Int32.ofInt 3 = nI (5 * n + 1 + 4 * k + 3) from nI_add (5 * n + 1 + 4 * k) 3) (by omega) (by omega) (S_evaluate_d.d 57 rfl) ?_
              rw [(hQ (5 * n + 1 + 4 * k + 3) (by omega)).1]
              refine AW.run X S_evaluate_d 58 1 rfl ?_
              rw [lZ_c0, iZ_l (zN_I (hQ (5 * n + 1 + 4 * k + 2) (by omega)).2), iZ_l (zN_I (hQ (5 * n + 1 + 4 * k + 3) (by omega)).2)]
              refine AW.callS (As := [.long (lZ (zlv (zrs q inp) (zL0 q (zwh q inp) (zbt Bt) n m wd k) n 0)), .long (lZ 0), .long (lZ ((2 ^ wd - 1) * 65536)), .long (lZ (q (5 * n + 1 + 4 * k + 2))), .long (lZ (q (5 * n + 1 + 4 * k + 3)))]) X (B_laid_m (zlv (zrs q inp) (zL0 q (zwh q inp) (zbt Bt) n m wd k) n 0) 0 ((2 ^ wd - 1) * 65536) (q (5 * n + 1 + 4 * k + 2)) (q (5 * n + 1 + 4 * k + 3)) hzv ⟨by decide, by decide⟩ ⟨by omega, by omega⟩ (by omega) (hQ (5 * n + 1 + 4 * k + 2) (by omega)).2 (hQ (5 * n + 1 + 4 * k + 3) (by omega)).2) cb_S_49 B_laid_st rfl ⟨by show _ ≤ dd; omega, by show _ ≤ 40 * (dd); omega⟩ (Nat.le_of_ble_eq_true rfl) ⟨Nat.le_of_ble_eq_true rfl, Nat.le_of_ble_eq_true rfl⟩ (S_evaluate_d.d 59 rfl) (fun v h' q => ?_)
              obtain ⟨rfl, rfl⟩ := q
              refine AW.run X S_evaluate_d 60 6 rfl ?_
              refine AW.callU (rc := ("NumberFunctions$Samples", Cl_S, 8)) (As := [.int (iZ (zlaid (zlv (zrs q inp) (zL0 q (zwh q inp) (zbt Bt) n m wd k) n 0) 0 ((2 ^ wd - 1) * 65536) (q (5 * n + 1 + 4 * k + 2)) (q (5 * n + 1 + 4 * k + 3)))), .int (nI (5 * n + 1 + 4 * k))]) X (F_withinPair_m (153 + a) (153 + b) 5 7 (5 * n + 1 + 4 * k) (5 * n + 1 + 4 * m) _ T (zlaid (zlv (zrs q inp) (zL0 q (zwh q inp) (zbt Bt) n m wd k) n 0) 0 ((2 ^ wd - 1) * 65536) (q (5 * n + 1 + 4 * k + 2)) (q (5 * n + 1 + 4 * k + 3))) (q (5 * n + 1 + 4 * k)) (q (5 * n + 1 + 4 * k + 1)) ((x_tl _ _ a).trans ((sT_o hA).trans hO)) rfl rfl ((x_tl _ _ b).trans ((sT_o hBx).trans hT)) hL (by omega) (hQ (5 * n + 1 + 4 * k) (by omega)).1 (hQ (5 * n + 1 + 4 * k + 1) (by omega)).1 (zlaid_N (hQ (5 * n + 1 + 4 * k + 2) (by omega)).2) (hQ (5 * n + 1 + 4 * k) (by omega)).2 (hQ (5 * n + 1 + 4 * k + 1) (by omega)).2 (hlo k hk)) cu_S_55_S ((x_tl _ _ a).trans ((sT_o hA).trans hO)) rfl rfl ⟨by show _ ≤ dd; omega, by show _ ≤ 40 * (dd); omega⟩ (Nat.le_of_ble_eq_true rfl) ⟨Nat.le_of_ble_eq_true rfl, Nat.le_of_ble_eq_true rfl⟩ (S_evaluate_d.d 66 rfl) (fun v h' q => ?_)
              obtain ⟨rfl, rfl⟩ := q
              rw [← zSm_e h5]
              refine AW.cs3 (j := k) X rfl (by omega) (S_evaluate_d.d 67 rfl) ?_
              refine AW.run X S_evaluate_d 68 1 rfl ?_
              refine AW.goto X (S_evaluate_d.d 69 rfl) ?_
              refine AW.pk [0, 3, 4, 5, 6, 7] rfl ?_
              rw [nI_o1, x_aA]
              exact ih2 (k + 1) _ C2 (by omega) (by omega) (fun j hj => by
                by_cases z : j = k
                · rw [z, upd_s]
                · rw [upd_n z]; exact b3 j (by omega)) (fun j hj => by rw [upd_n (by omega)]; exact b4 j (by omega))
        exact AW.eq (h' := x_hC (x_A S 3 (S.2.1 3)) (sT tl x W Rs C)) (by rw [x_A0]) (L45 (m + 1) 0 (S.2.1 3) C (by omega) (by omega) (fun j hj => absurd hj (Nat.not_lt_zero j)) (fun j _ => rfl))
      · have hk : k < n := clt q5
        refine AW.run X S_evaluate_d 6 4 rfl ?_
        refine AW.cl4 (j := k) X rfl (by omega) (S_evaluate_d.d 10 rfl) ?_
        rw [(hin k hk).2]
        refine AW.callV (As := [.int (nI k), .int (iZ (inp k))]) X (S_locate_m S tl a b cb x n m wd N q Bt hO ⟨hL, T, hT, hQ⟩ hB hA hBx hCx hx hn hm hwd hqs hN hNb W Rs C k (inp k) hk (hle k hk) (hin k hk).1) cb_S_33 ((x_tl _ _ a).trans ((sT_o hA).trans hO)) rfl S_locate_im S_locate_se rfl ⟨by show _ ≤ dd; omega, by show _ ≤ 40 * (dd); omega⟩ (Nat.le_of_ble_eq_true rfl) ⟨Nat.le_of_ble_eq_true rfl, Nat.le_of_ble_eq_true rfl⟩ (S_evaluate_d.d 11 rfl) (fun v h' q => ?_)
        obtain ⟨rfl, rfl⟩ := q
        refine AW.run X S_evaluate_d 12 1 rfl ?_
        refine AW.goto X (S_evaluate_d.d 13 rfl) ?_
        rw [nI_o1]
        exact ih1 (k + 1) _ _ (by omega) (by omega) (fun j hj => by
          by_cases z : j = k
          · rw [z, upd_s, upd_s]; exact ⟨rfl, rfl⟩
          · rw [upd_n z, upd_n z]; exact a3 j (by omega))
  exact L3 (n + 1) 0 W Rs (by omega) (by omega) (fun j hj => absurd hj (Nat.not_lt_zero j))

