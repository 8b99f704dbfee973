/-! NUMERALS, as the reference reads them -/
theorem dig_i {n : Nat} (h : n < 256) : (48 ≤ nI n ∧ nI n ≤ 57) ↔ (48 ≤ n ∧ n ≤ 57) := by
  rw [show (48 : Int32) = nI 48 from rfl, show (57 : Int32) = nI 57 from rfl, nI_leI (by decide) (by omega), nI_leI (by omega) (by decide)]
theorem isn_1 {sg : Nat → Nat} {s e : Nat} (h : npt sg s e = nf sg s) : ¬isn sg s e := fun z => z (Or.inl h)
theorem isn_2 {sg : Nat → Nat} {s e : Nat} (h : npt sg s e ≠ nf sg s) (g : npt sg s e = e) : isn sg s e := by
  have hla : nla sg s e = npt sg s e := if_neg (by omega)
  unfold isn; omega
theorem isn_3 {sg : Nat → Nat} {s e : Nat} (h : npt sg s e < e) (g : sg (npt sg s e) ≠ 46) : ¬isn sg s e := by
  have hla : nla sg s e = npt sg s e := if_neg (fun z => g z.2)
  unfold isn; omega
theorem isn_4 {sg : Nat → Nat} {s e : Nat} (h : npt sg s e < e ∧ sg (npt sg s e) = 46) (g : de sg e (npt sg s e + 1) = npt sg s e + 1) : ¬isn sg s e := by
  have hla : nla sg s e = de sg e (npt sg s e + 1) := if_pos h
  unfold isn; omega
theorem isn_5 {sg : Nat → Nat} {s e : Nat} (h : npt sg s e < e ∧ sg (npt sg s e) = 46) (k : npt sg s e ≠ nf sg s) (g : de sg e (npt sg s e + 1) ≠ npt sg s e + 1) : isn sg s e ↔ de sg e (npt sg s e + 1) = e := by
  have hla : nla sg s e = de sg e (npt sg s e + 1) := if_pos h
  unfold isn; omega
theorem pst_a {sg : Nat → Nat} {s j : Nat} (h : 48 ≤ sg (s + j) ∧ sg (s + j) ≤ 57) (g : ((pst sg s j).2.2.2.1 || decide (sg (s + j) = 46)) = false) : pst sg s (j + 1) = (min ((pst sg s j).1 * 10 + (sg (s + j) - 48)) 16384, (pst sg s j).2.1, (pst sg s j).2.2.1, ((pst sg s j).2.2.2.1 || decide (sg (s + j) = 46)), ((pst sg s j).2.2.2.2 || decide (sg (s + j) = 45))) := if_pos ⟨h, g⟩
theorem pst_b {sg : Nat → Nat} {s j : Nat} (h : 48 ≤ sg (s + j) ∧ sg (s + j) ≤ 57) (g : ((pst sg s j).2.2.2.1 || decide (sg (s + j) = 46)) = true) (k : 1 < (pst sg s j).2.2.1) : pst sg s (j + 1) = ((pst sg s j).1, (pst sg s j).2.1 + (pst sg s j).2.2.1 / 10 * (sg (s + j) - 48), (pst sg s j).2.2.1 / 10, ((pst sg s j).2.2.2.1 || decide (sg (s + j) = 46)), ((pst sg s j).2.2.2.2 || decide (sg (s + j) = 45))) := (if_neg (fun z => by have := z.2; rw [g] at this; cases this)).trans (if_pos ⟨h, k⟩)
theorem pst_c {sg : Nat → Nat} {s j : Nat} (h : ¬(48 ≤ sg (s + j) ∧ sg (s + j) ≤ 57) ∨ (((pst sg s j).2.2.2.1 || decide (sg (s + j) = 46)) = true ∧ ¬1 < (pst sg s j).2.2.1)) : pst sg s (j + 1) = ((pst sg s j).1, (pst sg s j).2.1, (pst sg s j).2.2.1, ((pst sg s j).2.2.2.1 || decide (sg (s + j) = 46)), ((pst sg s j).2.2.2.2 || decide (sg (s + j) = 45))) :=
  (if_neg (fun z => h.elim (fun y => y z.1) (fun y => by have := z.2; rw [y.1] at this; cases this))).trans (if_neg (fun z => h.elim (fun y => y z.1) (fun y => y.2 z.2)))
/-- the loop's numbers stay small -/
theorem pst_bd (sg : Nat → Nat) (s : Nat) : ∀ j, (pst sg s j).1 ≤ 16384 ∧ (pst sg s j).2.2.1 ≤ 1000000000 ∧ (pst sg s j).2.1 + 10 * (pst sg s j).2.2.1 ≤ 10000000000 := by
  intro j
  induction j with
  | zero => exact ⟨by show 0 ≤ 16384; decide, by show 1000000000 ≤ 1000000000; decide, by show 0 + 10 * 1000000000 ≤ 10000000000; decide⟩
  | succ j ih =>
    by_cases d : 48 ≤ sg (s + j) ∧ sg (s + j) ≤ 57
    · cases g : ((pst sg s j).2.2.2.1 || decide (sg (s + j) = 46)) with
      | false => rw [pst_a d g]; exact ⟨Nat.min_le_right _ _, ih.2⟩
      | true =>
        by_cases k : 1 < (pst sg s j).2.2.1
        · rw [pst_b d g k]
          refine ⟨ih.1, ?_, ?_⟩
          · show (pst sg s j).2.2.1 / 10 ≤ _; omega
          · show (pst sg s j).2.1 + (pst sg s j).2.2.1 / 10 * (sg (s + j) - 48) + 10 * ((pst sg s j).2.2.1 / 10) ≤ _
            have m := Nat.mul_le_mul_left ((pst sg s j).2.2.1 / 10) (show sg (s + j) - 48 ≤ 9 by omega)
            omega
        · rw [pst_c (Or.inr ⟨g, k⟩)]; exact ih
    · rw [pst_c (Or.inl d)]; exact ih
theorem pw_s {w c : Nat} (hc : 48 ≤ c ∧ c ≤ 57) : lZ w * (10 : Int64) + (nI c).toInt64 - (48 : Int64) = lZ ((w * 10 + (c - 48) : Nat) : Int) := by
  rw [nl_l (by omega), show (10 : Int64) = lZ 10 from rfl, show (48 : Int64) = lZ 48 from rfl, lZ_mul, lZ_add, lZ_sub]; congr 1; omega
theorem pu_s {u : Nat} (hu : u ≤ 1000000000) : lZ u / (10 : Int64) = lZ ((u / 10 : Nat) : Int) := by
  rw [show (10 : Int64) = lZ 10 from rfl, lZ_div ⟨by omega, by omega⟩ ⟨by decide, by decide⟩ (Or.inr (by decide))]
  congr 1
theorem pp_s {p u c : Nat} (hc : 48 ≤ c ∧ c ≤ 57) : lZ p + lZ u * (nI c - (Int8.ofInt 48).toInt32).toInt64 = lZ ((p + u * (c - 48) : Nat) : Int) := by
  rw [show nI c - (Int8.ofInt 48).toInt32 = nI (c - 48) from pk_sub (b := 48) hc.1, nl_l (by omega), lZ_mul, lZ_add]; congr 1
theorem pv_s {w p : Nat} (hp : p ≤ 10000000000) : lZ w * (65536 : Int64) + lZ p * (65536 : Int64) / (1000000000 : Int64) = lZ ((w * 65536 + p * 65536 / 1000000000 : Nat) : Int) := by
  rw [show (65536 : Int64) = lZ 65536 from rfl, show (1000000000 : Int64) = lZ 1000000000 from rfl, lZ_mul, lZ_mul, lZ_div ⟨by omega, by omega⟩ ⟨by decide, by decide⟩ (Or.inr (by decide)), lZ_add]; congr 1
theorem lZ_neg' (z : Int) : -lZ z = lZ (-z) := (Int64.ofInt_neg z).symm
set_option maxHeartbeats 4000000 in
set_option maxRecDepth 100000 in
theorem M_isNumber_m {l : Launch} {G : ax_G} (S : x_S) (M : x_M) (tl : List va_E) (f w s e : Nat) (hf : f < 24) (hw : w < 402) (hb : M.2.1 11 w = nI s) (he : M.2.1 12 w = nI e) (hs : s < e ∧ e ≤ 8192) :
    AM l VV G M_isNumber_y M_isNumber_c 7 (some .boolean) 1 0 0 [.ref 153, .int (nI f), .int (nI w)] (x_hM S M tl) (fun v h' => v = some (.int (bI (dc (isn (sgM M f) s e)))) ∧ h' = x_hM S M tl) := by
  refine AM.of (pl := pl_M) (by decide) v_good fl_M_ok kl_M_ok nofun (Nat.le_of_ble_eq_true rfl) ?_
  intro p0v e0v s0v m0v args below meth c0v X
  refine AW.run X M_isNumber_d 0 3 rfl ?_
  refine AW.ml11 (j := w) X rfl hw (M_isNumber_d.d 3 rfl) ?_
  rw [hb]
  have hfg := nf_ge (sgM M f) s
  have hs0 := (sgM_lt M f (s))
  refine AW.run X M_isNumber_d 4 4 rfl ?_
  refine AW.callV (As := [.int (nI f), .int (nI s)]) X (M_signAt_m S M tl f s (by omega)) cb_M_177 rfl rfl M_signAt_im M_signAt_se rfl ⟨Nat.le_of_ble_eq_true rfl, Nat.le_of_ble_eq_true rfl⟩ (Nat.le_of_ble_eq_true rfl) ⟨Nat.le_of_ble_eq_true rfl, Nat.le_of_ble_eq_true rfl⟩ (M_isNumber_d.d 8 rfl) (fun v h' q => ?_)
  obtain ⟨rfl, rfl⟩ := q
  rw [sgn_and, show sgn (M.2.1 9 (8192 * f + s)) = sgM M f s from rfl]
  refine AW.run X M_isNumber_d 9 3 rfl ?_
  have J36 : ∀ (z : Int32), z = nI (nf (sgM M f) s) → AW p0v l e0v (ax_R 1 0 0) s0v m0v args below meth c0v VV G 7 (x_hM S M tl) 0 0 (MQ below (ax_Q VV G (fun v h' => v = some (.int (bI (dc (isn (sgM M f) s e)))) ∧ h' = x_hM S M tl)) args s0v 0 0 (fun q => G.bs ≤ q)) 36 [(4, .int (nI (sgM M f s))), (3, .int (nI s)), (0, .ref 153), (1, .int (nI f)), (2, .int (nI w))] [.int z] := by
    intro z hz; subst hz
    refine AW.run X M_isNumber_d 21 1 rfl ?_
    have hp1 : nf (sgM M f) s ≤ npt (sgM M f) s e := de_ge _ _ _
    have hp2 : npt (sgM M f) s e ≤ e := de_le (by omega)
    refine AW.run X M_isNumber_d 22 2 rfl ?_
    have L40 : ∀ (t2 j : Nat), nf (sgM M f) s ≤ j → j ≤ e → de (sgM M f) e j = npt (sgM M f) s e → e - j < t2 → AW p0v l e0v (ax_R 1 0 0) s0v m0v args below meth c0v VV G 7 (x_hM S M tl) 0 0 (MQ below (ax_Q VV G (fun v h' => v = some (.int (bI (dc (isn (sgM M f) s e)))) ∧ h' = x_hM S M tl)) args s0v 0 0 (fun q => G.bs ≤ q)) 40 [(5, .int (nI (j - nf (sgM M f) s))), (3, .int (nI j)), (4, .int (nI (sgM M f s))), (0, .ref 153), (1, .int (nI f)), (2, .int (nI w))] [] := by
      intro t2
      induction t2 with
      | zero => intro j h1 h2 e1 h3; exact absurd h3 (by omega)
      | succ t2 ih =>
        intro j h1 h2 e1 h3
        refine AW.run X M_isNumber_d 24 4 rfl ?_
        refine AW.ml12 (j := w) X rfl hw (M_isNumber_d.d 28 rfl) ?_
        rw [he]
        have J71 : ∀ (_u : Nat), npt (sgM M f) s e = j → AW p0v l e0v (ax_R 1 0 0) s0v m0v args below meth c0v VV G 7 (x_hM S M tl) 0 0 (MQ below (ax_Q VV G (fun v h' => v = some (.int (bI (dc (isn (sgM M f) s e)))) ∧ h' = x_hM S M tl)) args s0v 0 0 (fun q => G.bs ≤ q)) 71 [(5, .int (nI (j - nf (sgM M f) s))), (3, .int (nI j)), (4, .int (nI (sgM M f s))), (0, .ref 153), (1, .int (nI f)), (2, .int (nI w))] [] := by
          intro _u hpt
          refine AW.run X M_isNumber_d 39 1 rfl ?_
          have J147 : ∀ (d k : Nat), d ≤ 8192 → k ≤ 8192 → ((0 < d ∧ k = e) ↔ isn (sgM M f) s e) → AW p0v l e0v (ax_R 1 0 0) s0v m0v args below meth c0v VV G 7 (x_hM S M tl) 0 0 (MQ below (ax_Q VV G (fun v h' => v = some (.int (bI (dc (isn (sgM M f) s e)))) ∧ h' = x_hM S M tl)) args s0v 0 0 (fun q => G.bs ≤ q)) 147 [(5, .int (nI d)), (3, .int (nI k)), (0, .ref 153), (1, .int (nI f)), (2, .int (nI w))] [] := by
            intro d k hd hk hi
            refine AW.run X M_isNumber_d 77 1 rfl ?_
            refine AW.if_le X (M_isNumber_d.d 78 rfl) (fun q78 => ?_) (fun q78 => ?_)
            · refine AW.run X M_isNumber_d 87 1 rfl ?_
              exact AW.zret X (by first | exact n_0 | exact n_1 | exact bI_nar _) (M_isNumber_d.d 88 rfl) (Nat.le_of_ble_eq_true rfl) (Nat.le_of_ble_eq_true rfl) ⟨dv_f (fun z => by have := hi.mpr z; have := cge (a := 0) (b := d) q78 (by decide) rfl; omega), rfl⟩
            · refine AW.run X M_isNumber_d 79 4 rfl ?_
              refine AW.ml12 (j := w) X rfl hw (M_isNumber_d.d 83 rfl) ?_
              rw [he]
              refine AW.icmp_ne X (M_isNumber_d.d 84 rfl) (fun q84 => ?_) (fun q84 => ?_)
              · refine AW.run X M_isNumber_d 87 1 rfl ?_
                exact AW.zret X (by first | exact n_0 | exact n_1 | exact bI_nar _) (M_isNumber_d.d 88 rfl) (Nat.le_of_ble_eq_true rfl) (Nat.le_of_ble_eq_true rfl) ⟨dv_f (fun z => q84 (by rw [(hi.mpr z).2])), rfl⟩
              · refine AW.run X M_isNumber_d 85 1 rfl ?_
                refine AW.goto X (M_isNumber_d.d 86 rfl) ?_
                exact AW.zret X (by first | exact n_0 | exact n_1 | exact bI_nar _) (M_isNumber_d.d 88 rfl) (Nat.le_of_ble_eq_true rfl) (Nat.le_of_ble_eq_true rfl) ⟨dv_t (hi.mp ⟨clt (a := 0) (b := d) q78 (by decide) rfl, (nI_eq (by omega) (by omega)).mp q84⟩), rfl⟩
          refine AW.if_le X (M_isNumber_d.d 40 rfl) (fun q40 => ?_) (fun q40 => ?_)
          · refine AW.pk [0, 1, 3, 4, 5] rfl ?_
            exact J147 (j - nf (sgM M f) s) j (by omega) (by omega) ⟨fun z => by have := cge (a := 0) (b := j - nf (sgM M f) s) q40 (by decide) rfl; omega, fun z => absurd z (isn_1 (by have := cge (a := 0) (b := j - nf (sgM M f) s) q40 (by decide) rfl; omega))⟩
          · refine AW.run X M_isNumber_d 41 4 rfl ?_
            refine AW.ml12 (j := w) X rfl hw (M_isNumber_d.d 45 rfl) ?_
            rw [he]
            refine AW.icmp_ge X (M_isNumber_d.d 46 rfl) (fun q46 => ?_) (fun q46 => ?_)
            · refine AW.pk [0, 1, 3, 4, 5] rfl ?_
              exact J147 (j - nf (sgM M f) s) j (by omega) (by omega) ⟨fun z => isn_2 (by have := clt (a := 0) (b := j - nf (sgM M f) s) q40 (by decide) rfl; omega) (by have := cge q46; omega), fun _ => ⟨clt (a := 0) (b := j - nf (sgM M f) s) q40 (by decide) rfl, by have := cge q46; omega⟩⟩
            · have hje : j < e := clt q46
              refine AW.run X M_isNumber_d 47 3 rfl ?_
              refine AW.callV (As := [.int (nI f), .int (nI j)]) X (M_signAt_m S M tl f j (by omega)) cb_M_177 rfl rfl M_signAt_im M_signAt_se rfl ⟨Nat.le_of_ble_eq_true rfl, Nat.le_of_ble_eq_true rfl⟩ (Nat.le_of_ble_eq_true rfl) ⟨Nat.le_of_ble_eq_true rfl, Nat.le_of_ble_eq_true rfl⟩ (M_isNumber_d.d 50 rfl) (fun v h' q => ?_)
              obtain ⟨rfl, rfl⟩ := q
              rw [sgn_and, show sgn (M.2.1 9 (8192 * f + j)) = sgM M f j from rfl]
              have hs1 := (sgM_lt M f (j))
              refine AW.run X M_isNumber_d 51 1 rfl ?_
              refine AW.icmp_ne X (M_isNumber_d.d 52 rfl) (fun q52 => ?_) (fun q52 => ?_)
              · refine AW.pk [0, 1, 3, 4, 5] rfl ?_
                exact J147 (j - nf (sgM M f) s) j (by omega) (by omega) ⟨fun z => by omega, fun z => absurd z (isn_3 (by omega) (by rw [hpt]; exact fun y => q52 (by rw [y]; rfl)))⟩
              · refine AW.run X M_isNumber_d 53 3 rfl ?_
                have L103 : ∀ (t3 k : Nat), j + 1 ≤ k → k ≤ e → de (sgM M f) e k = de (sgM M f) e (j + 1) → e - k < t3 → AW p0v l e0v (ax_R 1 0 0) s0v m0v args below meth c0v VV G 7 (x_hM S M tl) 0 0 (MQ below (ax_Q VV G (fun v h' => v = some (.int (bI (dc (isn (sgM M f) s e)))) ∧ h' = x_hM S M tl)) args s0v 0 0 (fun q => G.bs ≤ q)) 103 [(6, .int (nI (k - (j + 1)))), (3, .int (nI k)), (5, .int (nI (j - nf (sgM M f) s))), (4, .int (nI (sgM M f s))), (0, .ref 153), (1, .int (nI f)), (2, .int (nI w))] [] := by
                  intro t3
                  induction t3 with
                  | zero => intro k g1 g2 g3 g4; exact absurd g4 (by omega)
                  | succ t3 ih3 =>
                    intro k g1 g2 g3 g4
                    refine AW.run X M_isNumber_d 56 4 rfl ?_
                    refine AW.ml12 (j := w) X rfl hw (M_isNumber_d.d 60 rfl) ?_
                    rw [he]
                    have J134 : ∀ (_u : Nat), de (sgM M f) e (j + 1) = k → AW p0v l e0v (ax_R 1 0 0) s0v m0v args below meth c0v VV G 7 (x_hM S M tl) 0 0 (MQ below (ax_Q VV G (fun v h' => v = some (.int (bI (dc (isn (sgM M f) s e)))) ∧ h' = x_hM S M tl)) args s0v 0 0 (fun q => G.bs ≤ q)) 134 [(6, .int (nI (k - (j + 1)))), (3, .int (nI k)), (5, .int (nI (j - nf (sgM M f) s))), (4, .int (nI (sgM M f s))), (0, .ref 153), (1, .int (nI f)), (2, .int (nI w))] [] := by
                      intro _u hla
                      refine AW.run X M_isNumber_d 71 1 rfl ?_
                      refine AW.if_le X (M_isNumber_d.d 72 rfl) (fun q72 => ?_) (fun q72 => ?_)
                      · refine AW.run X M_isNumber_d 75 2 rfl ?_
                        refine AW.pk [0, 2, 4, 5, 6] rfl ?_
                        exact J147 0 k (by omega) (by omega) ⟨fun z => by omega, fun z => absurd z (isn_4 (by rw [hpt]; exact ⟨hje, (nI_eq (b := 46) (by omega) (by decide)).mp q52⟩) (by rw [hpt, hla]; have := cge (a := 0) (b := k - (j + 1)) q72 (by decide) rfl; omega))⟩
                      · refine AW.run X M_isNumber_d 73 1 rfl ?_
                        refine AW.goto X (M_isNumber_d.d 74 rfl) ?_
                        refine AW.run X M_isNumber_d 76 1 rfl ?_
                        refine AW.pk [0, 2, 4, 5, 6] rfl ?_
                        exact J147 (j - nf (sgM M f) s) k (by omega) (by omega) (by
                          have c1 := clt (a := 0) (b := k - (j + 1)) q72 (by decide) rfl
                          have c2 := clt (a := 0) (b := j - nf (sgM M f) s) q40 (by decide) rfl
                          have i5 := isn_5 (sg := (sgM M f)) (s := s) (e := e) (by rw [hpt]; exact ⟨hje, (nI_eq (b := 46) (by omega) (by decide)).mp q52⟩) (by omega) (by rw [hpt, hla]; omega)
                          rw [hpt, hla] at i5
                          rw [i5]; exact ⟨fun z => z.2, fun z => ⟨c2, z⟩⟩)
                    refine AW.icmp_ge X (M_isNumber_d.d 61 rfl) (fun q61 => ?_) (fun q61 => ?_)
                    · exact J134 0 (by rw [← g3, de_0 (fun z => by have := cge q61; omega)])
                    · have hk : k < e := clt q61
                      refine AW.run X M_isNumber_d 62 3 rfl ?_
                      refine AW.callV (As := [.int (nI f), .int (nI k)]) X (M_signAt_m S M tl f k (by omega)) cb_M_177 rfl rfl M_signAt_im M_signAt_se rfl ⟨Nat.le_of_ble_eq_true rfl, Nat.le_of_ble_eq_true rfl⟩ (Nat.le_of_ble_eq_true rfl) ⟨Nat.le_of_ble_eq_true rfl, Nat.le_of_ble_eq_true rfl⟩ (M_isNumber_d.d 65 rfl) (fun v h' q => ?_)
                      obtain ⟨rfl, rfl⟩ := q
                      rw [sgn_and, show sgn (M.2.1 9 (8192 * f + k)) = sgM M f k from rfl]
                      refine AW.callS (As := [.int (nI (sgM M f k))]) X (M_isDigit_m _) cb_M_208 M_isDigit_st rfl ⟨Nat.le_of_ble_eq_true rfl, Nat.le_of_ble_eq_true rfl⟩ (Nat.le_of_ble_eq_true rfl) ⟨Nat.le_of_ble_eq_true rfl, Nat.le_of_ble_eq_true rfl⟩ (M_isNumber_d.d 66 rfl) (fun v h' q => ?_)
                      obtain ⟨rfl, rfl⟩ := q
                      refine AW.if_eq X (M_isNumber_d.d 67 rfl) (fun q67 => ?_) (fun q67 => ?_)
                      · exact J134 0 (by rw [← g3, de_0 (fun z => (fun z => of_decide_eq_false ((bI_0 _).mp q67) ((dig_i (sgM_lt M f (k))).mpr z)) z.2)])
                      · refine AW.run X M_isNumber_d 68 2 rfl ?_
                        refine AW.goto X (M_isNumber_d.d 70 rfl) ?_
                        rw [nI_o1, nI_o1, show k - (j + 1) + 1 = k + 1 - (j + 1) by omega]
                        exact ih3 (k + 1) (by omega) (by omega) (by rw [← g3]; exact (de_1 ⟨hk, ((dig_i (sgM_lt M f (k))).mp (of_decide_eq_true (Bool.of_not_eq_false (fun y => q67 ((bI_0 _).mpr y)))))⟩).symm) (by omega)
                rw [nI_o1, show Int32.ofInt 0 = nI (j + 1 - (j + 1)) by rw [Nat.sub_self]; rfl]
                exact L103 (e + 1) (j + 1) (by omega) (by omega) rfl (by omega)
        refine AW.icmp_ge X (M_isNumber_d.d 29 rfl) (fun q29 => ?_) (fun q29 => ?_)
        · exact J71 0 (by rw [← e1, de_0 (fun z => by have := cge q29; omega)])
        · have hj : j < e := clt q29
          refine AW.run X M_isNumber_d 30 3 rfl ?_
          refine AW.callV (As := [.int (nI f), .int (nI j)]) X (M_signAt_m S M tl f j (by omega)) cb_M_177 rfl rfl M_signAt_im M_signAt_se rfl ⟨Nat.le_of_ble_eq_true rfl, Nat.le_of_ble_eq_true rfl⟩ (Nat.le_of_ble_eq_true rfl) ⟨Nat.le_of_ble_eq_true rfl, Nat.le_of_ble_eq_true rfl⟩ (M_isNumber_d.d 33 rfl) (fun v h' q => ?_)
          obtain ⟨rfl, rfl⟩ := q
          rw [sgn_and, show sgn (M.2.1 9 (8192 * f + j)) = sgM M f j from rfl]
          refine AW.callS (As := [.int (nI (sgM M f j))]) X (M_isDigit_m _) cb_M_208 M_isDigit_st rfl ⟨Nat.le_of_ble_eq_true rfl, Nat.le_of_ble_eq_true rfl⟩ (Nat.le_of_ble_eq_true rfl) ⟨Nat.le_of_ble_eq_true rfl, Nat.le_of_ble_eq_true rfl⟩ (M_isNumber_d.d 34 rfl) (fun v h' q => ?_)
          obtain ⟨rfl, rfl⟩ := q
          refine AW.if_eq X (M_isNumber_d.d 35 rfl) (fun q35 => ?_) (fun q35 => ?_)
          · exact J71 0 (by rw [← e1, de_0 (fun z => (fun z => of_decide_eq_false ((bI_0 _).mp q35) ((dig_i (sgM_lt M f (j))).mpr z)) z.2)])
          · refine AW.run X M_isNumber_d 36 2 rfl ?_
            refine AW.goto X (M_isNumber_d.d 38 rfl) ?_
            rw [nI_o1, nI_o1, show j - nf (sgM M f) s + 1 = j + 1 - nf (sgM M f) s by omega]
            exact ih (j + 1) (by omega) (by omega) (by rw [← e1]; exact (de_1 ⟨hj, ((dig_i (sgM_lt M f (j))).mp (of_decide_eq_true (Bool.of_not_eq_false (fun y => q35 ((bI_0 _).mpr y)))))⟩).symm) (by omega)
    rw [show Int32.ofInt 0 = nI (nf (sgM M f) s - nf (sgM M f) s) by rw [Nat.sub_self]; rfl]
    exact L40 (e + 1) (nf (sgM M f) s) (by omega) (by omega) rfl (by omega)
  refine AW.icmp_eq X (M_isNumber_d.d 12 rfl) (fun q12 => ?_) (fun q12 => ?_)
  · refine AW.run X M_isNumber_d 16 3 rfl ?_
    refine AW.goto X (M_isNumber_d.d 19 rfl) ?_
    exact J36 _ (by rw [nI_o1, show nf (sgM M f) s = s + 1 from if_pos (Or.inl ((nI_eq (b := 43) (by omega) (by decide)).mp q12))])
  · refine AW.run X M_isNumber_d 13 2 rfl ?_
    refine AW.icmp_ne X (M_isNumber_d.d 15 rfl) (fun q15 => ?_) (fun q15 => ?_)
    · refine AW.run X M_isNumber_d 20 1 rfl ?_
      exact J36 _ (by rw [show nf (sgM M f) s = s from if_neg (fun z => z.elim (fun y => q12 (by rw [y]; rfl)) (fun y => q15 (by rw [y]; rfl)))])
    · refine AW.run X M_isNumber_d 16 3 rfl ?_
      refine AW.goto X (M_isNumber_d.d 19 rfl) ?_
      exact J36 _ (by rw [nI_o1, show nf (sgM M f) s = s + 1 from if_pos (Or.inr ((nI_eq (b := 45) (by omega) (by decide)).mp q15))])

set_option maxHeartbeats 4000000 in
set_option maxRecDepth 100000 in
theorem M_partOf_m {l : Launch} {G : ax_G} (S : x_S) (M : x_M) (tl : List va_E) (f w s e : Nat) (b : Bool) (hf : f < 24) (hw : w < 402) (hb : M.2.1 11 w = nI s) (he : M.2.1 12 w = nI e) (hs : s < e ∧ e ≤ 8192) (hN : isn (sgM M f) s e) :
    AM l VV G M_partOf_y M_partOf_c 14 (some .long) 1 0 0 [.ref 153, .int (nI f), .int (nI w), .int (bI b)] (x_hM S M tl) (fun v h' => v = some (.long (lZ (if b = true then nv (sgM M f) s e else (nwh (sgM M f) s e : Nat)))) ∧ h' = x_hM S M tl) := by
  refine AM.of (pl := pl_M) (by decide) v_good fl_M_ok kl_M_ok nofun (Nat.le_of_ble_eq_true rfl) ?_
  intro p0v e0v s0v m0v args below meth c0v X
  refine AW.run X M_partOf_d 0 13 rfl ?_
  refine AW.ml11 (j := w) X rfl hw (M_partOf_d.d 13 rfl) ?_
  rw [hb]
  refine AW.run X M_partOf_d 14 1 rfl ?_
  have L25 : ∀ (t2 j : Nat), s + j ≤ e → e - (s + j) < t2 → AW p0v l e0v (ax_R 1 0 0) s0v m0v args below meth c0v VV G 14 (x_hM S M tl) 0 0 (MQ below (ax_Q VV G (fun v h' => v = some (.long (lZ (if b = true then nv (sgM M f) s e else (nwh (sgM M f) s e : Nat)))) ∧ h' = x_hM S M tl)) args s0v 0 0 (fun q => G.bs ≤ q)) 25 [(12, .int (nI (s + j))), (11, .int (bI (pst (sgM M f) s j).2.2.2.2)), (10, .int (bI (pst (sgM M f) s j).2.2.2.1)), (8, .long (lZ ((pst (sgM M f) s j).2.2.1 : Nat))), (6, .long (lZ ((pst (sgM M f) s j).2.1 : Nat))), (4, .long (lZ ((pst (sgM M f) s j).1 : Nat))), (0, .ref 153), (1, .int (nI f)), (2, .int (nI w)), (3, .int (bI b))] [] := by
    intro t2
    induction t2 with
    | zero => intro j h1 h2; exact absurd h2 (by omega)
    | succ t2 ih =>
      intro j h1 h2
      refine AW.run X M_partOf_d 15 4 rfl ?_
      refine AW.ml12 (j := w) X rfl hw (M_partOf_d.d 19 rfl) ?_
      rw [he]
      refine AW.icmp_ge X (M_partOf_d.d 20 rfl) (fun q20 => ?_) (fun q20 => ?_)
      · have hje : j = e - s := by have := cge q20; omega
        have hE := pst_end hN
        have hbd := pst_bd (sgM M f) s j
        rw [← hje] at hE
        refine AW.run X M_partOf_d 89 7 rfl ?_
        refine AW.ldiv X (M_partOf_d.d 96 rfl) (by decide) ?_
        refine AW.run X M_partOf_d 97 1 rfl ?_
        rw [pv_s (w := (pst (sgM M f) s j).1) (p := (pst (sgM M f) s j).2.1) (by omega)]
        refine AW.run X M_partOf_d 98 2 rfl ?_
        refine AW.if_ne X (M_partOf_d.d 100 rfl) (fun q100 => ?_) (fun q100 => ?_)
        · refine AW.run X M_partOf_d 103 1 rfl ?_
          refine AW.if_eq X (M_partOf_d.d 104 rfl) (fun q104 => ?_) (fun q104 => ?_)
          · refine AW.run X M_partOf_d 108 1 rfl ?_
            exact AW.lret X (M_partOf_d.d 109 rfl) (Nat.le_of_ble_eq_true rfl) (Nat.le_of_ble_eq_true rfl) ⟨by rw [if_pos (Bool.of_not_eq_false (fun y => q100 ((bI_0 _).mpr y)))]; unfold nv; rw [if_neg (fun y => by have := hE.2.2.symm.trans ((bI_0 _).mp q104); exact of_decide_eq_false this y), hE.1, hE.2.1]; rfl, rfl⟩
          · refine AW.run X M_partOf_d 105 2 rfl ?_
            refine AW.goto X (M_partOf_d.d 107 rfl) ?_
            exact AW.lret X (M_partOf_d.d 109 rfl) (Nat.le_of_ble_eq_true rfl) (Nat.le_of_ble_eq_true rfl) ⟨by rw [if_pos (Bool.of_not_eq_false (fun y => q100 ((bI_0 _).mpr y)))]; unfold nv; rw [if_pos (of_decide_eq_true (hE.2.2.symm.trans (Bool.of_not_eq_false (fun y => q104 ((bI_0 _).mpr y))))), lZ_neg', hE.1, hE.2.1]; rfl, rfl⟩
        · refine AW.run X M_partOf_d 101 1 rfl ?_
          refine AW.goto X (M_partOf_d.d 102 rfl) ?_
          exact AW.lret X (M_partOf_d.d 109 rfl) (Nat.le_of_ble_eq_true rfl) (Nat.le_of_ble_eq_true rfl) ⟨by rw [if_neg (by rw [(bI_0 _).mp q100]; decide), hE.1], rfl⟩
      · have hj : s + j < e := clt q20
        refine AW.run X M_partOf_d 21 3 rfl ?_
        refine AW.callV (As := [.int (nI f), .int (nI (s + j))]) X (M_signAt_m S M tl f (s + j) (by omega)) cb_M_177 rfl rfl M_signAt_im M_signAt_se rfl ⟨Nat.le_of_ble_eq_true rfl, Nat.le_of_ble_eq_true rfl⟩ (Nat.le_of_ble_eq_true rfl) ⟨Nat.le_of_ble_eq_true rfl, Nat.le_of_ble_eq_true rfl⟩ (M_partOf_d.d 24 rfl) (fun v h' q => ?_)
        obtain ⟨rfl, rfl⟩ := q
        rw [sgn_and, show sgn (M.2.1 9 (8192 * f + (s + j))) = sgM M f (s + j) from rfl]
        refine AW.run X M_partOf_d 25 1 rfl ?_
        have hc := (sgM_lt M f (s + j))
        have hbd := pst_bd (sgM M f) s j
        refine AW.run X M_partOf_d 26 1 rfl ?_
        have J62 : ∀ (z : Int32), z = bI ((pst (sgM M f) s j).2.2.2.2 || decide ((sgM M f) (s + j) = 45)) → AW p0v l e0v (ax_R 1 0 0) s0v m0v args below meth c0v VV G 14 (x_hM S M tl) 0 0 (MQ below (ax_Q VV G (fun v h' => v = some (.long (lZ (if b = true then nv (sgM M f) s e else (nwh (sgM M f) s e : Nat)))) ∧ h' = x_hM S M tl)) args s0v 0 0 (fun q => G.bs ≤ q)) 62 [(13, .int (nI (sgM M f (s + j)))), (12, .int (nI (s + j))), (11, .int (bI (pst (sgM M f) s j).2.2.2.2)), (10, .int (bI (pst (sgM M f) s j).2.2.2.1)), (8, .long (lZ ((pst (sgM M f) s j).2.2.1 : Nat))), (6, .long (lZ ((pst (sgM M f) s j).2.1 : Nat))), (4, .long (lZ ((pst (sgM M f) s j).1 : Nat))), (0, .ref 153), (1, .int (nI f)), (2, .int (nI w)), (3, .int (bI b))] [.int z] := by
          intro z hz; subst hz
          refine AW.run X M_partOf_d 34 2 rfl ?_
          have J81 : ∀ (z : Int32), z = bI ((pst (sgM M f) s j).2.2.2.1 || decide ((sgM M f) (s + j) = 46)) → AW p0v l e0v (ax_R 1 0 0) s0v m0v args below meth c0v VV G 14 (x_hM S M tl) 0 0 (MQ below (ax_Q VV G (fun v h' => v = some (.long (lZ (if b = true then nv (sgM M f) s e else (nwh (sgM M f) s e : Nat)))) ∧ h' = x_hM S M tl)) args s0v 0 0 (fun q => G.bs ≤ q)) 81 [(11, .int (bI ((pst (sgM M f) s j).2.2.2.2 || decide ((sgM M f) (s + j) = 45)))), (13, .int (nI (sgM M f (s + j)))), (12, .int (nI (s + j))), (10, .int (bI (pst (sgM M f) s j).2.2.2.1)), (8, .long (lZ ((pst (sgM M f) s j).2.2.1 : Nat))), (6, .long (lZ ((pst (sgM M f) s j).2.1 : Nat))), (4, .long (lZ ((pst (sgM M f) s j).1 : Nat))), (0, .ref 153), (1, .int (nI f)), (2, .int (nI w)), (3, .int (bI b))] [.int z] := by
            intro z hz; subst hz
            refine AW.run X M_partOf_d 43 2 rfl ?_
            refine AW.callS (As := [.int (nI (sgM M f (s + j)))]) X (M_isDigit_m _) cb_M_208 M_isDigit_st rfl ⟨Nat.le_of_ble_eq_true rfl, Nat.le_of_ble_eq_true rfl⟩ (Nat.le_of_ble_eq_true rfl) ⟨Nat.le_of_ble_eq_true rfl, Nat.le_of_ble_eq_true rfl⟩ (M_partOf_d.d 45 rfl) (fun v h' q => ?_)
            obtain ⟨rfl, rfl⟩ := q
            refine AW.if_eq X (M_partOf_d.d 46 rfl) (fun q46 => ?_) (fun q46 => ?_)
            · refine AW.run X M_partOf_d 67 1 rfl ?_
              refine AW.callS (As := [.int (nI (sgM M f (s + j)))]) X (M_isDigit_m _) cb_M_208 M_isDigit_st rfl ⟨Nat.le_of_ble_eq_true rfl, Nat.le_of_ble_eq_true rfl⟩ (Nat.le_of_ble_eq_true rfl) ⟨Nat.le_of_ble_eq_true rfl, Nat.le_of_ble_eq_true rfl⟩ (M_partOf_d.d 68 rfl) (fun v h' q => ?_)
              obtain ⟨rfl, rfl⟩ := q
              refine AW.if_eq X (M_partOf_d.d 69 rfl) (fun q69 => ?_) (fun q69 => absurd ((dig_i (sgM_lt M f (s + j))).mp (of_decide_eq_true (Bool.of_not_eq_false (fun y => q69 ((bI_0 _).mpr y))))) (fun z => of_decide_eq_false ((bI_0 _).mp q46) ((dig_i (sgM_lt M f (s + j))).mpr z)))
              refine AW.run X M_partOf_d 87 1 rfl ?_
              refine AW.goto X (M_partOf_d.d 88 rfl) ?_
              refine AW.pk [0, 2, 1, 4, 5, 6, 7, 8, 9, 10] rfl ?_
              rw [nI_o1, show s + j + 1 = s + (j + 1) by omega]
              have e9 := pst_c (sg := (sgM M f)) (s := s) (j := j) (Or.inl (fun z => of_decide_eq_false ((bI_0 _).mp q69) ((dig_i (sgM_lt M f (s + j))).mpr z)))
              have i9 := ih (j + 1) (by omega) (by omega)
              rw [e9] at i9
              exact i9
            · refine AW.run X M_partOf_d 47 1 rfl ?_
              refine AW.if_ne X (M_partOf_d.d 48 rfl) (fun q48 => ?_) (fun q48 => ?_)
              · refine AW.run X M_partOf_d 67 1 rfl ?_
                refine AW.callS (As := [.int (nI (sgM M f (s + j)))]) X (M_isDigit_m _) cb_M_208 M_isDigit_st rfl ⟨Nat.le_of_ble_eq_true rfl, Nat.le_of_ble_eq_true rfl⟩ (Nat.le_of_ble_eq_true rfl) ⟨Nat.le_of_ble_eq_true rfl, Nat.le_of_ble_eq_true rfl⟩ (M_partOf_d.d 68 rfl) (fun v h' q => ?_)
                obtain ⟨rfl, rfl⟩ := q
                refine AW.if_eq X (M_partOf_d.d 69 rfl) (fun q69 => absurd ((dig_i (sgM_lt M f (s + j))).mp (of_decide_eq_true (Bool.of_not_eq_false (fun y => q46 ((bI_0 _).mpr y))))) (fun z => of_decide_eq_false ((bI_0 _).mp q69) ((dig_i (sgM_lt M f (s + j))).mpr z))) (fun q69 => ?_)
                refine AW.run X M_partOf_d 70 3 rfl ?_
                refine AW.if_le X (M_partOf_d.d 73 rfl) (fun q73 => ?_) (fun q73 => ?_)
                · refine AW.run X M_partOf_d 87 1 rfl ?_
                  refine AW.goto X (M_partOf_d.d 88 rfl) ?_
                  refine AW.pk [0, 2, 1, 4, 5, 6, 7, 8, 9, 10] rfl ?_
                  rw [nI_o1, show s + j + 1 = s + (j + 1) by omega]
                  have e9 := pst_c (sg := (sgM M f)) (s := s) (j := j) (Or.inr ⟨(Bool.of_not_eq_false (fun y => q48 ((bI_0 _).mpr y))), fun z => absurd ((lc_le (a := ((pst (sgM M f) s j).2.2.1 : Nat)) (b := 1) ⟨by omega, by omega⟩ ⟨by decide, by decide⟩).mp q73) (by omega)⟩)
                  have i9 := ih (j + 1) (by omega) (by omega)
                  rw [e9] at i9
                  exact i9
                · have hd : 48 ≤ (sgM M f) (s + j) ∧ (sgM M f) (s + j) ≤ 57 := ((dig_i (sgM_lt M f (s + j))).mp (of_decide_eq_true (Bool.of_not_eq_false (fun y => q69 ((bI_0 _).mpr y)))))
                  refine AW.run X M_partOf_d 74 2 rfl ?_
                  refine AW.ldiv X (M_partOf_d.d 76 rfl) (by decide) ?_
                  rw [pu_s (u := (pst (sgM M f) s j).2.2.1) hbd.2.1]
                  refine AW.run X M_partOf_d 77 6 rfl ?_
                  refine AW.run X M_partOf_d 83 3 rfl ?_
                  rw [pp_s (p := (pst (sgM M f) s j).2.1) (u := (pst (sgM M f) s j).2.2.1 / 10) (c := (sgM M f) (s + j)) hd]
                  refine AW.run X M_partOf_d 86 2 rfl ?_
                  refine AW.goto X (M_partOf_d.d 88 rfl) ?_
                  refine AW.pk [0, 4, 3, 2, 1, 6, 7, 8, 9, 10] rfl ?_
                  rw [nI_o1, show s + j + 1 = s + (j + 1) by omega]
                  have e9 := pst_b (sg := (sgM M f)) (s := s) (j := j) hd (Bool.of_not_eq_false (fun y => q48 ((bI_0 _).mpr y))) (by have := mt (lc_le (a := ((pst (sgM M f) s j).2.2.1 : Nat)) (b := 1) ⟨by omega, by omega⟩ ⟨by decide, by decide⟩).mpr q73; omega)
                  have i9 := ih (j + 1) (by omega) (by omega)
                  rw [e9] at i9
                  exact i9
              · have hd : 48 ≤ (sgM M f) (s + j) ∧ (sgM M f) (s + j) ≤ 57 := ((dig_i (sgM_lt M f (s + j))).mp (of_decide_eq_true (Bool.of_not_eq_false (fun y => q46 ((bI_0 _).mpr y)))))
                refine AW.run X M_partOf_d 49 5 rfl ?_
                refine AW.run X M_partOf_d 54 3 rfl ?_
                rw [pw_s (w := (pst (sgM M f) s j).1) (c := (sgM M f) (s + j)) hd]
                refine AW.run X M_partOf_d 57 4 rfl ?_
                have J129 : ∀ (z : Int64), z = lZ ((min ((pst (sgM M f) s j).1 * 10 + ((sgM M f) (s + j) - 48)) 16384 : Nat) : Int) → AW p0v l e0v (ax_R 1 0 0) s0v m0v args below meth c0v VV G 14 (x_hM S M tl) 0 0 (MQ below (ax_Q VV G (fun v h' => v = some (.long (lZ (if b = true then nv (sgM M f) s e else (nwh (sgM M f) s e : Nat)))) ∧ h' = x_hM S M tl)) args s0v 0 0 (fun q => G.bs ≤ q)) 129 [(4, .long (lZ (((pst (sgM M f) s j).1 * 10 + ((sgM M f) (s + j) - 48) : Nat) : Int))), (10, .int (bI ((pst (sgM M f) s j).2.2.2.1 || decide ((sgM M f) (s + j) = 46)))), (11, .int (bI ((pst (sgM M f) s j).2.2.2.2 || decide ((sgM M f) (s + j) = 45)))), (13, .int (nI (sgM M f (s + j)))), (12, .int (nI (s + j))), (8, .long (lZ ((pst (sgM M f) s j).2.2.1 : Nat))), (6, .long (lZ ((pst (sgM M f) s j).2.1 : Nat))), (0, .ref 153), (1, .int (nI f)), (2, .int (nI w)), (3, .int (bI b))] [.long z] := by
                  intro z hz; subst hz
                  refine AW.run X M_partOf_d 65 1 rfl ?_
                  refine AW.goto X (M_partOf_d.d 66 rfl) ?_
                  refine AW.run X M_partOf_d 87 1 rfl ?_
                  refine AW.goto X (M_partOf_d.d 88 rfl) ?_
                  refine AW.pk [0, 3, 2, 5, 6, 1, 7, 8, 9, 10] rfl ?_
                  rw [nI_o1, show s + j + 1 = s + (j + 1) by omega]
                  have e9 := pst_a (sg := (sgM M f)) (s := s) (j := j) hd ((bI_0 _).mp q48)
                  have i9 := ih (j + 1) (by omega) (by omega)
                  rw [e9] at i9
                  exact i9
                refine AW.if_le X (M_partOf_d.d 61 rfl) (fun q61 => ?_) (fun q61 => ?_)
                · refine AW.run X M_partOf_d 64 1 rfl ?_
                  exact J129 _ (by rw [show min ((pst (sgM M f) s j).1 * 10 + ((sgM M f) (s + j) - 48)) 16384 = (pst (sgM M f) s j).1 * 10 + ((sgM M f) (s + j) - 48) from Nat.min_eq_left (by have := (lc_le (a := (((pst (sgM M f) s j).1 * 10 + ((sgM M f) (s + j) - 48) : Nat) : Int)) (b := 16384) ⟨by omega, by omega⟩ ⟨by decide, by decide⟩).mp q61; omega)])
                · refine AW.run X M_partOf_d 62 1 rfl ?_
                  refine AW.goto X (M_partOf_d.d 63 rfl) ?_
                  exact J129 _ (by rw [show min ((pst (sgM M f) s j).1 * 10 + ((sgM M f) (s + j) - 48)) 16384 = 16384 from Nat.min_eq_right (by have := mt (lc_le (a := (((pst (sgM M f) s j).1 * 10 + ((sgM M f) (s + j) - 48) : Nat) : Int)) (b := 16384) ⟨by omega, by omega⟩ ⟨by decide, by decide⟩).mpr q61; omega)]; rfl)
          refine AW.if_ne X (M_partOf_d.d 36 rfl) (fun q36 => ?_) (fun q36 => ?_)
          · refine AW.run X M_partOf_d 40 1 rfl ?_
            refine AW.goto X (M_partOf_d.d 41 rfl) ?_
            exact J81 _ (by rw [show (pst (sgM M f) s j).2.2.2.1 = true from Bool.of_not_eq_false (fun y => q36 ((bI_0 _).mpr y)), Bool.true_or]; rfl)
          · refine AW.run X M_partOf_d 37 2 rfl ?_
            refine AW.icmp_ne X (M_partOf_d.d 39 rfl) (fun q39 => ?_) (fun q39 => ?_)
            · refine AW.run X M_partOf_d 42 1 rfl ?_
              exact J81 _ (by rw [show (pst (sgM M f) s j).2.2.2.1 = false from (bI_0 _).mp q36, Bool.false_or, decide_eq_false (fun y => q39 (by rw [y]; rfl))]; rfl)
            · refine AW.run X M_partOf_d 40 1 rfl ?_
              refine AW.goto X (M_partOf_d.d 41 rfl) ?_
              exact J81 _ (by rw [decide_eq_true (show (sgM M f) (s + j) = 46 from (nI_eq (b := 46) (by omega) (by decide)).mp q39), Bool.or_true]; rfl)
        refine AW.if_ne X (M_partOf_d.d 27 rfl) (fun q27 => ?_) (fun q27 => ?_)
        · refine AW.run X M_partOf_d 31 1 rfl ?_
          refine AW.goto X (M_partOf_d.d 32 rfl) ?_
          exact J62 _ (by rw [show (pst (sgM M f) s j).2.2.2.2 = true from Bool.of_not_eq_false (fun y => q27 ((bI_0 _).mpr y)), Bool.true_or]; rfl)
        · refine AW.run X M_partOf_d 28 2 rfl ?_
          refine AW.icmp_ne X (M_partOf_d.d 30 rfl) (fun q30 => ?_) (fun q30 => ?_)
          · refine AW.run X M_partOf_d 33 1 rfl ?_
            exact J62 _ (by rw [show (pst (sgM M f) s j).2.2.2.2 = false from (bI_0 _).mp q27, Bool.false_or, decide_eq_false (fun y => q30 (by rw [y]; rfl))]; rfl)
          · refine AW.run X M_partOf_d 31 1 rfl ?_
            refine AW.goto X (M_partOf_d.d 32 rfl) ?_
            exact J62 _ (by rw [decide_eq_true (show (sgM M f) (s + j) = 45 from (nI_eq (b := 45) (by omega) (by decide)).mp q30), Bool.or_true]; rfl)
  rw [lZ_c0]
  exact L25 (e + 1) 0 (by omega) (by omega)

