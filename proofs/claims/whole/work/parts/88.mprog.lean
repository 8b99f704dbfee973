/-! THE REFERENCE RUNS a program from its inputs to its outputs -/
def PG (M M' : x_M) : Prop := (∀ k, k < 3 ∨ k = 5 ∨ 11 < k → M'.1 k = M.1 k) ∧ (∀ k, k < 11 ∨ 14 < k → M'.2.1 k = M.2.1 k) ∧ ∀ k, k < 2 ∨ 3 < k → M'.2.2 k = M.2.2 k
theorem PG.refl (M : x_M) : PG M M := ⟨fun _ _ => rfl, fun _ _ => rfl, fun _ _ => rfl⟩
theorem PG.trans {M M1 M2 : x_M} (h : PG M M1) (g : PG M1 M2) : PG M M2 := ⟨fun k a => (g.1 k a).trans (h.1 k a), fun k a => (g.2.1 k a).trans (h.2.1 k a), fun k a => (g.2.2 k a).trans (h.2.2 k a)⟩
theorem PG.of {M M1 : x_M} (h : PF M M1) : PG M M1 := ⟨fun k a => h.1 k (by omega) (by omega) (by omega) (by omega) (by omega), fun k a => h.2.1 k (by omega) (by omega), fun k a => h.2.2 k (by omega)⟩
theorem PG.rw {M M1 : x_M} (h : RWf M M1) : PG M M1 := ⟨fun k a => h.1 k (by omega), fun k a => h.2.1 k (by omega) (by omega) (by omega), fun k _ => by rw [h.2.2]⟩
theorem PG.i {M M1 : x_M} (h : PG M M1) {k : Nat} (x : Int32) (hk : k = 3 ∨ k = 4 ∨ (6 ≤ k ∧ k ≤ 11)) : PG M (y_i M1 k x) := h.trans ⟨fun j a => y_in M1 x (by omega), fun _ _ => rfl, fun _ _ => rfl⟩
theorem PG.a {M M1 : x_M} (h : PG M M1) {k : Nat} (j : Nat) (x : Int32) (hk : 11 ≤ k ∧ k ≤ 14) : PG M (y_a M1 k j x) := h.trans ⟨fun _ _ => rfl, fun i a => y_an M1 j x (by omega), fun _ _ => rfl⟩
theorem PG.l {M M1 : x_M} (h : PG M M1) {k : Nat} (j : Nat) (x : Int64) (hk : k = 2 ∨ k = 3) : PG M (y_l M1 k j x) := h.trans ⟨fun _ _ => rfl, fun _ _ => rfl, fun i a => y_ln M1 j x (by omega)⟩
theorem FQ.pg {M M' : x_M} {f : Nat} {q : Nat → Int} {L : Nat} (h : FQ M f q L) (g : PG M M') : FQ M' f q L := ⟨h.1, h.2.1, by rw [g.2.1 7 (by decide)]; exact h.2.2⟩
theorem MS.in {M : x_M} {k : Nat} {u : Nat → Int} {t : Nat → Bool} (h : MS M k u t) (ht : t k = false) {x : Int32} (hx : x = nI k + Int32.ofInt 1) : MS (y_i (y_a (y_l M 3 k (lZ (u k))) 13 k (vp_nar .boolean (Int32.ofInt 0))) 9 x) (k + 1) u t := by
  refine ⟨by rw [y_ig, hx, nI_o1], fun j hj => ?_⟩
  have e3 : (y_i (y_a (y_l M 3 k (lZ (u k))) 13 k (vp_nar .boolean (Int32.ofInt 0))) 9 x).2.2 3 = vp_updL (M.2.2 3) k (lZ (u k)) := y_lg M 3 k (lZ (u k))
  have e13 : (y_i (y_a (y_l M 3 k (lZ (u k))) 13 k (vp_nar .boolean (Int32.ofInt 0))) 9 x).2.1 13 = upd (M.2.1 13) k (vp_nar .boolean (Int32.ofInt 0)) := y_ag (y_l M 3 k (lZ (u k))) 13 k (vp_nar .boolean (Int32.ofInt 0))
  rw [e3, e13]
  by_cases e : j = k
  · rw [e, upd_s, ht]
    exact ⟨by simp [vp_updL], rfl⟩
  · rw [upd_n e]
    have := h.2 j (by omega)
    exact ⟨by rw [← this.1]; simp [vp_updL, e], this.2⟩
theorem pend_y {n o : Nat} {t : Nat → Bool} (h : n = o) (g : ∀ j, j < o → t j = false) : pend n t o = -1 := by
  unfold pend
  rw [if_neg (fun z => z h), if_neg (by rw [dc_f (fun ⟨j, hj, e⟩ => by rw [g j (by omega)] at e; cases e)]; decide)]
theorem pend_10 {n o j : Nat} {t : Nat → Bool} (h : n = o) (hj : j < o) (g : t j = true) : pend n t o = 10 := by
  unfold pend
  rw [if_neg (fun z => z h), if_pos (dc_t ⟨j, by omega, g⟩)]
theorem pend_14 {n o : Nat} {t : Nat → Bool} (h : n ≠ o) : pend n t o = 14 := if_pos h
/-- the run is at an end with a fault -/
def pBad (M : x_M) (c : Int) (p : Nat) : Prop := (M.1 3 = iZ c ∧ M.1 4 = nI p) ∧ M.1 3 ≠ -1 ∧ c ≠ -1
/-- the stack that a program begins with -/
def uIn (inp q : Nat → Int) : Nat → Int := fun k => zcut (inp k) (q (2 * k)) (q (2 * k + 1))
def tNo : Nat → Bool := fun _ => false
set_option maxHeartbeats 4000000 in
set_option maxRecDepth 100000 in
theorem M_programS_m {l : Launch} {G : ax_G} (S : x_S) (M : x_M) (tl : List va_E) (f i o n k0 : Nat) (q inp : Nat → Int) (P0 Q : pP) (hf : f < 24) (hi : 1 ≤ i ∧ i ≤ 4) (ho : 1 ≤ o ∧ o ≤ 4) (htk : M.2.1 5 f = nI i) (hgv : M.2.1 6 f = nI o) (hF : FQ M f q (2 * (i + o))) (hin : ∀ k, k < i → zN (inp k) ∧ (k ≠ 0 → M.2.1 2 k = iZ (inp k))) (hsz : M.2.1 8 f = nI n) (hn : n ≤ 8192) (h0 : qn P0 = 0 ∧ qd P0 = 0) (hprs : prs (sgM M f) n 401 (ws (sgM M f) n 0) P0 = (-1, k0, Q)) (hG : gd M) (Y : pM) (hrun : ∃ m, MC pfS (qc Q) (qm Q) (qn Q) m (1, [], (i, uIn inp q, tNo)) (qn Q, [], Y)) :
    AM l VV G M_program_y M_program_c 6 none 9 0 0 [.ref 153, .int (nI f), .long (lZ (inp 0))] (x_hM S M tl) (fun v h' => v = none ∧ ∃ M', h' = x_hM S M' tl ∧ PG M M' ∧ (pend Y.1 Y.2.2 o = -1 → gd M' ∧ ∀ k, k < o → M'.2.2 2 k = lZ (zcut (Y.2.1 k) (q (2 * i + 2 * k)) (q (2 * i + 2 * k + 1)))) ∧ (pend Y.1 Y.2.2 o ≠ -1 → M'.1 3 = iZ (pend Y.1 Y.2.2 o) ∧ M'.1 4 = nI (qn Q))) := by
  refine AM.of (pl := pl_M) (by decide) v_good fl_M_ok kl_M_ok nofun (Nat.le_of_ble_eq_true rfl) ?_
  intro p0v e0v s0v m0v args below meth c0v X
  have hq0 : prg (qc Q) (qt Q) (qe Q) (qn Q) ∧ PI Q ∧ qd Q = 0 ∧ ∀ j, j < qn Q → ∃ s e, tok (sgM M f) n Q j s e := prs_prg hprs h0.1 h0.2
  have h12 := hq0.2.1.2.2.2.1
  have h38 := hq0.2.1.2.1
  have h400 := hq0.2.1.1
  refine AW.run X M_program_d 0 2 rfl ?_
  refine AW.callV (As := [.int (nI f)]) X (M_readWords_m S M tl f n P0 hf hn hsz h0) cb_M_164 rfl rfl M_readWords_im M_readWords_se rfl ⟨Nat.le_of_ble_eq_true rfl, Nat.le_of_ble_eq_true rfl⟩ (Nat.le_of_ble_eq_true rfl) ⟨Nat.le_of_ble_eq_true rfl, Nat.le_of_ble_eq_true rfl⟩ (M_program_d.d 2 rfl) (fun v h' q => ?_)
  obtain ⟨rfl, M1, rfl, q1, q2, -⟩ := q
  rw [hprs] at q2
  obtain ⟨w1, w2, w3⟩ := q2 rfl
  have hP1 : PG M M1 := PG.rw q1
  have hT1 : TK M1 f n Q := ⟨w2, h400, hn, by
    have e9 : sgM M1 f = sgM M f := by unfold sgM; rw [q1.2.1 9 (by decide) (by decide) (by decide)]
    rw [e9]; exact w3⟩
  refine AW.run X M_program_d 3 2 rfl ?_
  refine AW.mp9 X (M_program_d.d 5 rfl) ?_
  refine AW.run X M_program_d 6 2 rfl ?_
  refine AW.mp10 X (M_program_d.d 8 rfl) ?_
  refine AW.run X M_program_d 9 2 rfl ?_
  have L18 : ∀ (t1 k : Nat) (M2 : x_M), k ≤ i → i - k < t1 → PG M M2 → TK M2 f n Q → gd M2 → M2.1 10 = nI 0 → MS M2 k (uIn inp q) tNo → AW p0v l e0v (ax_R 9 0 0) s0v m0v args below meth c0v VV G 6 (x_hM S M2 tl) 0 0 (MQ below (ax_Q VV G (fun v h' => v = none ∧ ∃ M', h' = x_hM S M' tl ∧ PG M M' ∧ (pend Y.1 Y.2.2 o = -1 → gd M' ∧ ∀ k, k < o → M'.2.2 2 k = lZ (zcut (Y.2.1 k) (q (2 * i + 2 * k)) (q (2 * i + 2 * k + 1)))) ∧ (pend Y.1 Y.2.2 o ≠ -1 → M'.1 3 = iZ (pend Y.1 Y.2.2 o) ∧ M'.1 4 = nI (qn Q)))) args s0v 0 0 (fun q => G.bs ≤ q)) 18 [(4, .int (nI k)), (0, .ref 153), (1, .int (nI f)), (2, .long (lZ (inp 0)))] [] := by
    intro t1
    induction t1 with
    | zero => intro k M2 a1 a2; exact absurd a2 (by omega)
    | succ t1 ih1 =>
      intro k M2 a1 a2 hP2 hT2 hG2 hO2 hM2
      have htk2 : M2.2.1 5 f = nI i := by rw [hP2.2.1 5 (by decide)]; exact htk
      have hF2 := hF.pg hP2
      have hin2 : ∀ k, k < i → (if k = 0 then inp 0 else (M2.2.1 2 k).toInt) = inp k := by
        intro k hk
        by_cases z : k = 0
        · rw [if_pos z, z]
        · rw [if_neg z, hP2.2.1 2 (by decide), (hin k hk).2 z, iZ_t (zN_I (hin k hk).1)]
      refine AW.run X M_program_d 11 4 rfl ?_
      refine AW.ml5 (j := f) X rfl (by omega) (M_program_d.d 15 rfl) ?_
      rw [htk2]
      refine AW.icmp_ge X (M_program_d.d 16 rfl) (fun q16 => ?_) (fun q16 => ?_)
      · have hki : k = i := by have := cge q16; omega
        rw [hki] at hM2
        refine AW.run X M_program_d 55 2 rfl ?_
        have L97 : ∀ (t2 : Nat) (x : Nat × List Nat × pM) (M2 : x_M), (∃ m, m < t2 ∧ MC pfS (qc Q) (qm Q) (qn Q) m x (qn Q, [], Y)) → PG M M2 → TK M2 f n Q → gd M2 → MS M2 x.2.2.1 x.2.2.2.1 x.2.2.2.2 → RT M2 x.2.1 → WS x.2.2.1 x.2.2.2.1 x.2.2.2.2 → AW p0v l e0v (ax_R 9 0 0) s0v m0v args below meth c0v VV G 6 (x_hM S M2 tl) 0 0 (MQ below (ax_Q VV G (fun v h' => v = none ∧ ∃ M', h' = x_hM S M' tl ∧ PG M M' ∧ (pend Y.1 Y.2.2 o = -1 → gd M' ∧ ∀ k, k < o → M'.2.2 2 k = lZ (zcut (Y.2.1 k) (q (2 * i + 2 * k)) (q (2 * i + 2 * k + 1)))) ∧ (pend Y.1 Y.2.2 o ≠ -1 → M'.1 3 = iZ (pend Y.1 Y.2.2 o) ∧ M'.1 4 = nI (qn Q)))) args s0v 0 0 (fun q => G.bs ≤ q)) 97 [(4, .int (nI x.1)), (0, .ref 153), (1, .int (nI f)), (2, .long (lZ (inp 0)))] [] := by
          intro t2
          induction t2 with
          | zero => rintro x M2 ⟨m, hm, -⟩; exact absurd hm (by omega)
          | succ t2 ih =>
            rintro x M2 ⟨m, hm, hC⟩ hP2 hT2 hG2 hM2 hR2 hW2
            have hxb : x.1 ≤ qn Q := by
              cases m with
              | zero => rw [show x = _ from hC]; exact Nat.le_refl _
              | succ m =>
                obtain ⟨z, hz, -⟩ := hC
                exact Nat.le_of_lt hz.1.1
            refine AW.run X M_program_d 57 3 rfl ?_
            refine AW.icmp_ge X (M_program_d.d 60 rfl) (fun q60 => ?_) (fun q60 => ?_)
            · have hxY : x = (qn Q, [], Y) := by
                cases m with
                | zero => exact hC
                | succ m =>
                  obtain ⟨z, hz, -⟩ := hC
                  have h1 := hz.1.1
                  have h2 := cge (a := x.1) (b := qn Q) q60 rfl hT2.1 (by omega) (by omega)
                  omega
              subst hxY
              have hMY : MS M2 Y.1 Y.2.1 Y.2.2 := hM2
              have hWY : WS Y.1 Y.2.1 Y.2.2 := hW2
              have h60 := hWY.1
              refine AW.run X M_program_d 70 3 rfl ?_
              refine AW.mp11 X (M_program_d.d 73 rfl) ?_
              have hP3 : PG M (y_i M2 11 (M2.1 6)) := hP2.i (k := 11) _ (by decide)
              have hG3 : gd (y_i M2 11 (M2.1 6)) := gd_i (by decide) hG2
              have hM3 : MS (y_i M2 11 (M2.1 6)) Y.1 Y.2.1 Y.2.2 := hMY.fr (y_in M2 (k := 11) (j := 9) _ (by decide)) rfl rfl
              have hgv3 : (y_i M2 11 (M2.1 6)).2.1 6 f = nI o := by rw [hP3.2.1 6 (by decide)]; exact hgv
              have h11 : (y_i M2 11 (M2.1 6)).1 11 = nI (qn Q) := (y_ig M2 11 _).trans hT2.1
              refine AW.run X M_program_d 74 1 rfl ?_
              refine AW.callV (As := []) X (M_isGoodG_m S (y_i M2 11 (M2.1 6)) tl hG3) cb_M_349 rfl rfl M_isGood_im M_isGood_se rfl ⟨Nat.le_of_ble_eq_true rfl, Nat.le_of_ble_eq_true rfl⟩ (Nat.le_of_ble_eq_true rfl) ⟨Nat.le_of_ble_eq_true rfl, Nat.le_of_ble_eq_true rfl⟩ (M_program_d.d 75 rfl) (fun v h' q => ?_)
              obtain ⟨rfl, rfl⟩ := q
              refine AW.if_eq X (M_program_d.d 76 rfl) (fun q76 => absurd q76 (by decide)) (fun q76 => ?_)
              refine AW.run X M_program_d 77 5 rfl ?_
              refine AW.ml6 (j := f) X rfl (by omega) (M_program_d.d 82 rfl) ?_
              rw [hgv3]
              have J159 : ∀ (M5 : x_M), PG M M5 → ((M5 = y_i M2 11 (M2.1 6) ∧ Y.1 = o) ∨ pBad M5 (pend Y.1 Y.2.2 o) (qn Q)) → AW p0v l e0v (ax_R 9 0 0) s0v m0v args below meth c0v VV G 6 (x_hM S M5 tl) 0 0 (MQ below (ax_Q VV G (fun v h' => v = none ∧ ∃ M', h' = x_hM S M' tl ∧ PG M M' ∧ (pend Y.1 Y.2.2 o = -1 → gd M' ∧ ∀ k, k < o → M'.2.2 2 k = lZ (zcut (Y.2.1 k) (q (2 * i + 2 * k)) (q (2 * i + 2 * k + 1)))) ∧ (pend Y.1 Y.2.2 o ≠ -1 → M'.1 3 = iZ (pend Y.1 Y.2.2 o) ∧ M'.1 4 = nI (qn Q)))) args s0v 0 0 (fun q => G.bs ≤ q)) 159 [(0, .ref 153), (1, .int (nI f)), (2, .long (lZ (inp 0)))] [] := by
                intro M5 hP5 hX5
                refine AW.run X M_program_d 87 2 rfl ?_
                have L162 : ∀ (t3 k : Nat) (M6 : x_M), k ≤ o → o - k < t3 → PG M M6 → ((M6 = y_i M2 11 (M2.1 6) ∧ Y.1 = o ∧ ∀ j, j < k → Y.2.2 j = false) ∨ pBad M6 (pend Y.1 Y.2.2 o) (qn Q)) → AW p0v l e0v (ax_R 9 0 0) s0v m0v args below meth c0v VV G 6 (x_hM S M6 tl) 0 0 (MQ below (ax_Q VV G (fun v h' => v = none ∧ ∃ M', h' = x_hM S M' tl ∧ PG M M' ∧ (pend Y.1 Y.2.2 o = -1 → gd M' ∧ ∀ k, k < o → M'.2.2 2 k = lZ (zcut (Y.2.1 k) (q (2 * i + 2 * k)) (q (2 * i + 2 * k + 1)))) ∧ (pend Y.1 Y.2.2 o ≠ -1 → M'.1 3 = iZ (pend Y.1 Y.2.2 o) ∧ M'.1 4 = nI (qn Q)))) args s0v 0 0 (fun q => G.bs ≤ q)) 162 [(5, .int (nI k)), (0, .ref 153), (1, .int (nI f)), (2, .long (lZ (inp 0)))] [] := by
                  intro t3
                  induction t3 with
                  | zero => intro k M6 a1 a2; exact absurd a2 (by omega)
                  | succ t3 ih3 =>
                    intro k M6 a1 a2 hP6 hX6
                    have hgv6 : M6.2.1 6 f = nI o := by rw [hP6.2.1 6 (by decide)]; exact hgv
                    refine AW.run X M_program_d 89 4 rfl ?_
                    refine AW.ml6 (j := f) X rfl (by omega) (M_program_d.d 93 rfl) ?_
                    rw [hgv6]
                    have J202 : ∀ (_u : Nat), ((M6 = y_i M2 11 (M2.1 6) ∧ Y.1 = o ∧ ∀ j, j < o → Y.2.2 j = false) ∨ pBad M6 (pend Y.1 Y.2.2 o) (qn Q)) → AW p0v l e0v (ax_R 9 0 0) s0v m0v args below meth c0v VV G 6 (x_hM S M6 tl) 0 0 (MQ below (ax_Q VV G (fun v h' => v = none ∧ ∃ M', h' = x_hM S M' tl ∧ PG M M' ∧ (pend Y.1 Y.2.2 o = -1 → gd M' ∧ ∀ k, k < o → M'.2.2 2 k = lZ (zcut (Y.2.1 k) (q (2 * i + 2 * k)) (q (2 * i + 2 * k + 1)))) ∧ (pend Y.1 Y.2.2 o ≠ -1 → M'.1 3 = iZ (pend Y.1 Y.2.2 o) ∧ M'.1 4 = nI (qn Q)))) args s0v 0 0 (fun q => G.bs ≤ q)) 202 [(5, .int (nI k)), (0, .ref 153), (1, .int (nI f)), (2, .long (lZ (inp 0)))] [] := by
                      intro _u hX2
                      refine AW.run X M_program_d 108 2 rfl ?_
                      have L205 : ∀ (t4 k : Nat) (M7 : x_M), k ≤ o → o - k < t4 → PG M M7 → ((pend Y.1 Y.2.2 o = -1 ∧ gd M7 ∧ (∀ j, j < o → M7.2.2 3 j = lZ (Y.2.1 j)) ∧ (∀ j, j < k → M7.2.2 2 j = lZ (zcut (Y.2.1 j) (q (2 * i + 2 * j)) (q (2 * i + 2 * j + 1)))) ∧ Y.1 = o) ∨ pBad M7 (pend Y.1 Y.2.2 o) (qn Q)) → AW p0v l e0v (ax_R 9 0 0) s0v m0v args below meth c0v VV G 6 (x_hM S M7 tl) 0 0 (MQ below (ax_Q VV G (fun v h' => v = none ∧ ∃ M', h' = x_hM S M' tl ∧ PG M M' ∧ (pend Y.1 Y.2.2 o = -1 → gd M' ∧ ∀ k, k < o → M'.2.2 2 k = lZ (zcut (Y.2.1 k) (q (2 * i + 2 * k)) (q (2 * i + 2 * k + 1)))) ∧ (pend Y.1 Y.2.2 o ≠ -1 → M'.1 3 = iZ (pend Y.1 Y.2.2 o) ∧ M'.1 4 = nI (qn Q)))) args s0v 0 0 (fun q => G.bs ≤ q)) 205 [(5, .int (nI k)), (0, .ref 153), (1, .int (nI f)), (2, .long (lZ (inp 0)))] [] := by
                        intro t4
                        induction t4 with
                        | zero => intro k M7 a1 a2; exact absurd a2 (by omega)
                        | succ t4 ih4 =>
                          intro k M7 b1 b2 hP7 hX7
                          have hgv7 : M7.2.1 6 f = nI o := by rw [hP7.2.1 6 (by decide)]; exact hgv
                          have htk7 : M7.2.1 5 f = nI i := by rw [hP7.2.1 5 (by decide)]; exact htk
                          have hF7 := hF.pg hP7
                          refine AW.run X M_program_d 110 4 rfl ?_
                          refine AW.ml6 (j := f) X rfl (by omega) (M_program_d.d 114 rfl) ?_
                          rw [hgv7]
                          refine AW.icmp_ge X (M_program_d.d 115 rfl) (fun q115 => ?_) (fun q115 => ?_)
                          · exact AW.vret X (M_program_d.d 158 rfl) (Nat.le_of_ble_eq_true rfl) (Nat.le_of_ble_eq_true rfl) (by
                              rcases hX7 with z | z
                              · exact ⟨rfl, M7, rfl, hP7, fun _ => ⟨z.2.1, fun j hj => z.2.2.2.1 j (by have := cge q115; omega)⟩, fun y => absurd z.1 y⟩
                              · exact ⟨rfl, M7, rfl, hP7, fun y => absurd y z.2.2, fun _ => z.1⟩)
                          · refine AW.run X M_program_d 116 1 rfl ?_
                            refine AW.callV (As := []) X (M_isGood_m S M7 tl) cb_M_349 rfl rfl M_isGood_im M_isGood_se rfl ⟨Nat.le_of_ble_eq_true rfl, Nat.le_of_ble_eq_true rfl⟩ (Nat.le_of_ble_eq_true rfl) ⟨Nat.le_of_ble_eq_true rfl, Nat.le_of_ble_eq_true rfl⟩ (M_program_d.d 117 rfl) (fun v h' q => ?_)
                            obtain ⟨rfl, rfl⟩ := q
                            refine AW.if_eq X (M_program_d.d 118 rfl) (fun q118 => ?_) (fun q118 => ?_)
                            · exact AW.vret X (M_program_d.d 158 rfl) (Nat.le_of_ble_eq_true rfl) (Nat.le_of_ble_eq_true rfl) (by
                                rcases hX7 with z | z
                                · exact absurd (dc_t z.2.1.1) (by rw [(bI_0 _).mp q118]; decide)
                                · exact ⟨rfl, M7, rfl, hP7, fun y => absurd y z.2.2, fun _ => z.1⟩)
                            · have hg7 := hX7.resolve_right (fun z => z.2.1 (Classical.byContradiction fun y => q118 (by rw [dc_f y]; rfl)))
                              have hk7 : k < o := clt q115
                              refine AW.run X M_program_d 119 6 rfl ?_
                              refine AW.mll3 (j := k) X rfl (by omega) (M_program_d.d 125 rfl) ?_
                              rw [hg7.2.2.1 k hk7]
                              refine AW.run X M_program_d 126 6 rfl ?_
                              refine AW.ml5 (j := f) X rfl (by omega) (M_program_d.d 132 rfl) ?_
                              rw [htk7]
                              refine AW.run X M_program_d 133 5 rfl ?_
                              rw [show Int32.ofInt 2 * nI i + Int32.ofInt 2 * nI k = nI (2 * i + 2 * k) from by rw [show Int32.ofInt 2 * nI i = nI (2 * i) from pk_mul 2 i, show Int32.ofInt 2 * nI k = nI (2 * k) from pk_mul 2 k, nI_add]]
                              refine AW.callV (As := [.int (nI f), .int (nI (2 * i + 2 * k))]) X (M_ofq_m S M7 tl f (2 * i + 2 * k) _ q hF7 (by omega)) cb_M_320 rfl rfl M_of_im M_of_se rfl ⟨Nat.le_of_ble_eq_true rfl, Nat.le_of_ble_eq_true rfl⟩ (Nat.le_of_ble_eq_true rfl) ⟨Nat.le_of_ble_eq_true rfl, Nat.le_of_ble_eq_true rfl⟩ (M_program_d.d 138 rfl) (fun v h' q => ?_)
                              obtain ⟨rfl, rfl⟩ := q
                              refine AW.run X M_program_d 139 6 rfl ?_
                              refine AW.ml5 (j := f) X rfl (by omega) (M_program_d.d 145 rfl) ?_
                              rw [htk7]
                              refine AW.run X M_program_d 146 7 rfl ?_
                              rw [show Int32.ofInt 2 * nI i + Int32.ofInt 2 * nI k = nI (2 * i + 2 * k) from by rw [show Int32.ofInt 2 * nI i = nI (2 * i) from pk_mul 2 i, show Int32.ofInt 2 * nI k = nI (2 * k) from pk_mul 2 k, nI_add], nI_o1]
                              refine AW.callV (As := [.int (nI f), .int (nI (2 * i + 2 * k + 1))]) X (M_ofq_m S M7 tl f (2 * i + 2 * k + 1) _ q hF7 (by omega)) cb_M_320 rfl rfl M_of_im M_of_se rfl ⟨Nat.le_of_ble_eq_true rfl, Nat.le_of_ble_eq_true rfl⟩ (Nat.le_of_ble_eq_true rfl) ⟨Nat.le_of_ble_eq_true rfl, Nat.le_of_ble_eq_true rfl⟩ (M_program_d.d 153 rfl) (fun v h' q => ?_)
                              obtain ⟨rfl, rfl⟩ := q
                              refine AW.callS (As := [.long (lZ (Y.2.1 k)), .long (lZ (q (2 * i + 2 * k))), .long (lZ (q (2 * i + 2 * k + 1)))]) X (M_cutTo_m (Y.2.1 k) (q (2 * i + 2 * k)) (q (2 * i + 2 * k + 1)) (zN_L (hWY.2 k (by omega)).1) (zN_L (hF.2.2 (2 * i + 2 * k) (by omega)).2) (zN_L (hF.2.2 (2 * i + 2 * k + 1) (by omega)).2)) cb_M_104 M_cutTo_st rfl ⟨Nat.le_of_ble_eq_true rfl, Nat.le_of_ble_eq_true rfl⟩ (Nat.le_of_ble_eq_true rfl) ⟨Nat.le_of_ble_eq_true rfl, Nat.le_of_ble_eq_true rfl⟩ (M_program_d.d 154 rfl) (fun v h' q => ?_)
                              obtain ⟨rfl, rfl⟩ := q
                              refine AW.msl2 (j := k) X rfl (by omega) (M_program_d.d 155 rfl) ?_
                              refine AW.run X M_program_d 156 1 rfl ?_
                              refine AW.goto X (M_program_d.d 157 rfl) ?_
                              rw [nI_o1]
                              exact ih4 (k + 1) (y_l M7 2 k (lZ (zcut (Y.2.1 k) (q (2 * i + 2 * k)) (q (2 * i + 2 * k + 1))))) (by omega) (by omega) (hP7.l (k := 2) k _ (Or.inl rfl)) (Or.inl ⟨hg7.1, hg7.2.1, hg7.2.2.1, fun j hj => by
                                rw [y_lg]
                                by_cases z : j = k
                                · rw [z]; simp [vp_updL]
                                · rw [← hg7.2.2.2.1 j (by omega)]; simp [vp_updL, z], hg7.2.2.2.2⟩)
                      exact L205 (o + 1) 0 M6 (by omega) (by omega) hP6 (hX2.imp (fun z => ⟨pend_y z.2.1 z.2.2, by rw [z.1]; exact hG3, fun j hj => by rw [z.1]; exact (hM3.2 j (by omega)).1, fun j hj => absurd hj (Nat.not_lt_zero j), z.2.1⟩) id)
                    refine AW.icmp_ge X (M_program_d.d 94 rfl) (fun q94 => ?_) (fun q94 => ?_)
                    · exact J202 0 (hX6.imp (fun z => ⟨z.1, z.2.1, fun j hj => z.2.2 j (by have := cge q94; omega)⟩) id)
                    · refine AW.run X M_program_d 95 1 rfl ?_
                      refine AW.callV (As := []) X (M_isGood_m S M6 tl) cb_M_349 rfl rfl M_isGood_im M_isGood_se rfl ⟨Nat.le_of_ble_eq_true rfl, Nat.le_of_ble_eq_true rfl⟩ (Nat.le_of_ble_eq_true rfl) ⟨Nat.le_of_ble_eq_true rfl, Nat.le_of_ble_eq_true rfl⟩ (M_program_d.d 96 rfl) (fun v h' q => ?_)
                      obtain ⟨rfl, rfl⟩ := q
                      refine AW.if_eq X (M_program_d.d 97 rfl) (fun q97 => ?_) (fun q97 => ?_)
                      · exact J202 0 (Or.inr (hX6.resolve_left (fun z => absurd (dc_t (show M6.1 3 = -1 by rw [z.1]; exact hG3.1)) (by rw [(bI_0 _).mp q97]; decide))))
                      · have hg6 := hX6.resolve_right (fun z => z.2.1 (Classical.byContradiction fun y => q97 (by rw [dc_f y]; rfl)))
                        have hG6 : gd M6 := by rw [hg6.1]; exact hG3
                        have hk6 : k < o := clt q94
                        refine AW.run X M_program_d 98 3 rfl ?_
                        refine AW.ml13 (j := k) X rfl (by omega) (M_program_d.d 101 rfl) ?_
                        rw [show M6.2.1 13 k = bI (Y.2.2 k) from by rw [hg6.1]; exact (hM3.2 k (by omega)).2]
                        refine AW.if_eq X (M_program_d.d 102 rfl) (fun q102 => ?_) (fun q102 => ?_)
                        · refine AW.run X M_program_d 106 1 rfl ?_
                          refine AW.goto X (M_program_d.d 107 rfl) ?_
                          rw [nI_o1]
                          exact ih3 (k + 1) M6 (by omega) (by omega) hP6 (Or.inl ⟨hg6.1, hg6.2.1, fun j hj => by
                            by_cases z : j = k
                            · rw [z]; exact (bI_0 _).mp q102
                            · exact hg6.2.2 j (by omega)⟩)
                        · refine AW.run X M_program_d 103 2 rfl ?_
                          refine AW.callV (As := [.int (iZ 10)]) X (M_failG_m S M6 tl 10 hG6) cb_M_356 rfl rfl M_fail_im M_fail_se rfl ⟨Nat.le_of_ble_eq_true rfl, Nat.le_of_ble_eq_true rfl⟩ (Nat.le_of_ble_eq_true rfl) ⟨Nat.le_of_ble_eq_true rfl, Nat.le_of_ble_eq_true rfl⟩ (M_program_d.d 105 rfl) (fun v h' q => ?_)
                          obtain ⟨rfl, rfl⟩ := q
                          refine AW.run X M_program_d 106 1 rfl ?_
                          refine AW.goto X (M_program_d.d 107 rfl) ?_
                          rw [nI_o1]
                          exact ih3 (k + 1) (bad M6 10) (by omega) (by omega) (hP6.trans (PG.of (PF.of (bad_F _ _)))) (Or.inr ⟨⟨by rw [bad_3, pend_10 hg6.2.1 hk6 (Bool.of_not_eq_false (fun y => q102 ((bI_0 _).mpr y)))], by rw [bad_4, hg6.1]; exact h11⟩, by rw [bad_3]; decide, by rw [pend_10 hg6.2.1 hk6 (Bool.of_not_eq_false (fun y => q102 ((bI_0 _).mpr y)))]; decide⟩)
                exact L162 (o + 1) 0 M5 (by omega) (by omega) hP5 (hX5.imp (fun z => ⟨z.1, z.2, fun j hj => absurd hj (Nat.not_lt_zero j)⟩) id)
              refine AW.icmp_eq X (M_program_d.d 83 rfl) (fun q83 => ?_) (fun q83 => ?_)
              · refine AW.pk [1, 2, 3] rfl ?_
                exact J159 _ hP3 (Or.inl ⟨rfl, (nI_eq (by omega) (by omega)).mp (hM3.1.symm.trans q83)⟩)
              · refine AW.run X M_program_d 84 2 rfl ?_
                refine AW.callV (As := [.int (iZ 14)]) X (M_failG_m S (y_i M2 11 (M2.1 6)) tl 14 hG3) cb_M_356 rfl rfl M_fail_im M_fail_se rfl ⟨Nat.le_of_ble_eq_true rfl, Nat.le_of_ble_eq_true rfl⟩ (Nat.le_of_ble_eq_true rfl) ⟨Nat.le_of_ble_eq_true rfl, Nat.le_of_ble_eq_true rfl⟩ (M_program_d.d 86 rfl) (fun v h' q => ?_)
                obtain ⟨rfl, rfl⟩ := q
                refine AW.pk [1, 2, 3] rfl ?_
                have hne : Y.1 ≠ o := fun z => q83 (by rw [hM3.1, z])
                exact J159 _ (hP3.trans (PG.of (PF.of (bad_F _ _)))) (Or.inr ⟨⟨by rw [bad_3, pend_14 hne], by rw [bad_4]; exact h11⟩, by rw [bad_3]; decide, by rw [pend_14 hne]; decide⟩)
            · have hx2 : x.1 < qn Q := clt (a := x.1) (b := qn Q) q60 rfl hT2.1 (by omega) (by omega)
              refine AW.run X M_program_d 61 1 rfl ?_
              refine AW.callV (As := []) X (M_isGoodG_m S M2 tl hG2) cb_M_349 rfl rfl M_isGood_im M_isGood_se rfl ⟨Nat.le_of_ble_eq_true rfl, Nat.le_of_ble_eq_true rfl⟩ (Nat.le_of_ble_eq_true rfl) ⟨Nat.le_of_ble_eq_true rfl, Nat.le_of_ble_eq_true rfl⟩ (M_program_d.d 62 rfl) (fun v h' q => ?_)
              obtain ⟨rfl, rfl⟩ := q
              refine AW.if_eq X (M_program_d.d 63 rfl) (fun q63 => absurd q63 (by decide)) (fun q63 => ?_)
              refine AW.run X M_program_d 64 3 rfl ?_
              obtain ⟨m1, rfl⟩ : ∃ m1, m = m1 + 1 := by
                cases m with
                | zero => have : x = _ := hC; rw [this] at hx2; exact absurd hx2 (Nat.lt_irrefl _)
                | succ m => exact ⟨m, rfl⟩
              obtain ⟨z, hz, hC2⟩ := hC
              have hN := M_nextS (l := l) (G := G) S M2 tl f n Q x z hf hT2 h12 h38 hG2 hW2 hM2 hR2 hz
              refine AW.callV (As := [.int (nI f), .int (nI x.1)]) X hN.1 cb_M_376 rfl rfl M_next_im M_next_se rfl ⟨Nat.le_of_ble_eq_true rfl, Nat.le_of_ble_eq_true rfl⟩ (Nat.le_of_ble_eq_true rfl) ⟨Nat.le_of_ble_eq_true rfl, Nat.le_of_ble_eq_true rfl⟩ (M_program_d.d 67 rfl) (fun v h' q => ?_)
              obtain ⟨M8, rfl, rfl, p1, p2, p3, p4⟩ := q
              refine AW.run X M_program_d 68 1 rfl ?_
              refine AW.goto X (M_program_d.d 69 rfl) ?_
              exact ih z M8 ⟨m1, by omega, hC2⟩ (hP2.trans (PG.of p1)) (hT2.pf p1) p2 p3 p4 hN.2
        obtain ⟨m0, hm0⟩ := hrun
        exact L97 (m0 + 1) (1, [], (i, uIn inp q, tNo)) M2 ⟨m0, by omega, hm0⟩ hP2 hT2 hG2 hM2 ⟨hO2, fun j hj => absurd hj (Nat.not_lt_zero j)⟩ ⟨by show i ≤ 60; omega, fun j hj => ⟨zcut_N (hin j hj).1 (hF.2.2 (2 * j) (by have : j < i := hj; omega)).2 (hF.2.2 (2 * j + 1) (by have : j < i := hj; omega)).2, fun z => by cases z⟩⟩
      · have hk : k < i := clt q16
        refine AW.run X M_program_d 17 7 rfl ?_
        refine AW.callV (As := [.int (nI k), .long (lZ (inp 0))]) X (M_inputOf_m S M2 tl k (inp 0) (by omega)) cb_M_331 rfl rfl M_inputOf_im M_inputOf_se rfl ⟨Nat.le_of_ble_eq_true rfl, Nat.le_of_ble_eq_true rfl⟩ (Nat.le_of_ble_eq_true rfl) ⟨Nat.le_of_ble_eq_true rfl, Nat.le_of_ble_eq_true rfl⟩ (M_program_d.d 24 rfl) (fun v h' q => ?_)
        obtain ⟨rfl, rfl⟩ := q
        rw [show (if k = 0 then inp 0 else (M2.2.1 2 k).toInt) = inp k from hin2 k (by omega)]
        refine AW.run X M_program_d 25 5 rfl ?_
        rw [(show Int32.ofInt 2 * nI k = nI (2 * k) from pk_mul 2 k)]
        refine AW.callV (As := [.int (nI f), .int (nI (2 * k))]) X (M_ofq_m S M2 tl f (2 * k) _ q hF2 (by omega)) cb_M_320 rfl rfl M_of_im M_of_se rfl ⟨Nat.le_of_ble_eq_true rfl, Nat.le_of_ble_eq_true rfl⟩ (Nat.le_of_ble_eq_true rfl) ⟨Nat.le_of_ble_eq_true rfl, Nat.le_of_ble_eq_true rfl⟩ (M_program_d.d 30 rfl) (fun v h' q => ?_)
        obtain ⟨rfl, rfl⟩ := q
        refine AW.run X M_program_d 31 7 rfl ?_
        rw [(show Int32.ofInt 2 * nI k = nI (2 * k) from pk_mul 2 k), nI_o1]
        refine AW.callV (As := [.int (nI f), .int (nI (2 * k + 1))]) X (M_ofq_m S M2 tl f (2 * k + 1) _ q hF2 (by omega)) cb_M_320 rfl rfl M_of_im M_of_se rfl ⟨Nat.le_of_ble_eq_true rfl, Nat.le_of_ble_eq_true rfl⟩ (Nat.le_of_ble_eq_true rfl) ⟨Nat.le_of_ble_eq_true rfl, Nat.le_of_ble_eq_true rfl⟩ (M_program_d.d 38 rfl) (fun v h' q => ?_)
        obtain ⟨rfl, rfl⟩ := q
        refine AW.callS (As := [.long (lZ (inp k)), .long (lZ (q (2 * k))), .long (lZ (q (2 * k + 1)))]) X (M_cutTo_m (inp k) (q (2 * k)) (q (2 * k + 1)) (zN_L (hin k (by omega)).1) (zN_L (hF.2.2 (2 * k) (by omega)).2) (zN_L (hF.2.2 (2 * k + 1) (by omega)).2)) cb_M_104 M_cutTo_st rfl ⟨Nat.le_of_ble_eq_true rfl, Nat.le_of_ble_eq_true rfl⟩ (Nat.le_of_ble_eq_true rfl) ⟨Nat.le_of_ble_eq_true rfl, Nat.le_of_ble_eq_true rfl⟩ (M_program_d.d 39 rfl) (fun v h' q => ?_)
        obtain ⟨rfl, rfl⟩ := q
        rw [show zcut (inp k) (q (2 * k)) (q (2 * k + 1)) = uIn inp q k from rfl]
        refine AW.msl3 (j := k) X hM2.1 (by omega) (M_program_d.d 40 rfl) ?_
        refine AW.run X M_program_d 41 5 rfl ?_
        refine AW.ms13 (j := k) X hM2.1 (by omega) (M_program_d.d 46 rfl) ?_
        refine AW.run X M_program_d 47 5 rfl ?_
        refine AW.mp9 X (M_program_d.d 52 rfl) ?_
        refine AW.run X M_program_d 53 1 rfl ?_
        refine AW.goto X (M_program_d.d 54 rfl) ?_
        rw [nI_o1 k]
        exact ih1 (k + 1) _ (by omega) (by omega) (((hP2.l (k := 3) k _ (Or.inr rfl)).a (k := 13) k _ (by decide)).i (k := 9) _ (by decide)) (hT2.pf ((((PF.refl M2).l k _).a (k := 13) k _ (Or.inl rfl)).i (k := 9) _ (by decide))) (gd_i (by decide) hG2) ((y_in _ (k := 9) (j := 10) _ (by decide)).trans hO2) (hM2.in rfl (by rw [← hM2.1]; rfl))
  exact L18 (i + 1) 0 _ (by omega) (by omega) ((hP1.i (k := 9) _ (by decide)).i (k := 10) _ (by decide)) (hT1.pf (((PF.refl M1).i (k := 9) _ (by decide)).i (k := 10) _ (by decide))) (gd_i (by decide) (gd_i (by decide) ⟨(q1.1 3 (by decide)).trans hG.1, (q1.1 4 (by decide)).trans hG.2⟩)) (y_ig _ 10 _) ⟨(y_in _ (k := 10) (j := 9) _ (by decide)).trans (y_ig M1 9 _), fun j hj => absurd hj (by omega)⟩

theorem ch_lt {pf : Nat → Int → pM → Int × pM} {cs : Nat → Nat} {nm : Nat → Int} {N m : Nat} {x X : Nat × List Nat × pM} {c : Int} {p : Nat} (h : MC pf cs nm N m x X) (g : mflt pf cs nm N X c p) : x.1 < N := by
  cases m with
  | zero => rw [show x = X from h]; exact g.1.1
  | succ m =>
    obtain ⟨z, hz, -⟩ := h
    exact hz.1.1

set_option maxHeartbeats 4000000 in
set_option maxRecDepth 100000 in
theorem M_programF_m {l : Launch} {G : ax_G} (S : x_S) (M : x_M) (tl : List va_E) (f i o n k0 : Nat) (q inp : Nat → Int) (P0 Q : pP) (hf : f < 24) (hi : 1 ≤ i ∧ i ≤ 4) (ho : 1 ≤ o ∧ o ≤ 4) (htk : M.2.1 5 f = nI i) (hgv : M.2.1 6 f = nI o) (hF : FQ M f q (2 * (i + o))) (hin : ∀ k, k < i → zN (inp k) ∧ (k ≠ 0 → M.2.1 2 k = iZ (inp k))) (hsz : M.2.1 8 f = nI n) (hn : n ≤ 8192) (h0 : qn P0 = 0 ∧ qd P0 = 0) (hprs : prs (sgM M f) n 401 (ws (sgM M f) n 0) P0 = (-1, k0, Q)) (hG : gd M) (c : Int) (p : Nat) (hcz : iZ c ≠ -1) (hrun : ∃ m X, MC pfS (qc Q) (qm Q) (qn Q) m (1, [], (i, uIn inp q, tNo)) X ∧ mflt pfS (qc Q) (qm Q) (qn Q) X c p) :
    AM l VV G M_program_y M_program_c 6 none 9 0 0 [.ref 153, .int (nI f), .long (lZ (inp 0))] (x_hM S M tl) (fun v h' => v = none ∧ ∃ M', h' = x_hM S M' tl ∧ PG M M' ∧ M'.1 3 = iZ c ∧ M'.1 4 = nI p) := by
  refine AM.of (pl := pl_M) (by decide) v_good fl_M_ok kl_M_ok nofun (Nat.le_of_ble_eq_true rfl) ?_
  intro p0v e0v s0v m0v args below meth c0v X
  have hq0 : prg (qc Q) (qt Q) (qe Q) (qn Q) ∧ PI Q ∧ qd Q = 0 ∧ ∀ j, j < qn Q → ∃ s e, tok (sgM M f) n Q j s e := prs_prg hprs h0.1 h0.2
  have h12 := hq0.2.1.2.2.2.1
  have h38 := hq0.2.1.2.1
  have h400 := hq0.2.1.1
  refine AW.run X M_program_d 0 2 rfl ?_
  refine AW.callV (As := [.int (nI f)]) X (M_readWords_m S M tl f n P0 hf hn hsz h0) cb_M_164 rfl rfl M_readWords_im M_readWords_se rfl ⟨Nat.le_of_ble_eq_true rfl, Nat.le_of_ble_eq_true rfl⟩ (Nat.le_of_ble_eq_true rfl) ⟨Nat.le_of_ble_eq_true rfl, Nat.le_of_ble_eq_true rfl⟩ (M_program_d.d 2 rfl) (fun v h' q => ?_)
  obtain ⟨rfl, M1, rfl, q1, q2, -⟩ := q
  rw [hprs] at q2
  obtain ⟨w1, w2, w3⟩ := q2 rfl
  have hP1 : PG M M1 := PG.rw q1
  have hT1 : TK M1 f n Q := ⟨w2, h400, hn, by
    have e9 : sgM M1 f = sgM M f := by unfold sgM; rw [q1.2.1 9 (by decide) (by decide) (by decide)]
    rw [e9]; exact w3⟩
  refine AW.run X M_program_d 3 2 rfl ?_
  refine AW.mp9 X (M_program_d.d 5 rfl) ?_
  refine AW.run X M_program_d 6 2 rfl ?_
  refine AW.mp10 X (M_program_d.d 8 rfl) ?_
  refine AW.run X M_program_d 9 2 rfl ?_
  have L18 : ∀ (t1 k : Nat) (M2 : x_M), k ≤ i → i - k < t1 → PG M M2 → TK M2 f n Q → gd M2 → M2.1 10 = nI 0 → MS M2 k (uIn inp q) tNo → AW p0v l e0v (ax_R 9 0 0) s0v m0v args below meth c0v VV G 6 (x_hM S M2 tl) 0 0 (MQ below (ax_Q VV G (fun v h' => v = none ∧ ∃ M', h' = x_hM S M' tl ∧ PG M M' ∧ M'.1 3 = iZ c ∧ M'.1 4 = nI p)) args s0v 0 0 (fun q => G.bs ≤ q)) 18 [(4, .int (nI k)), (0, .ref 153), (1, .int (nI f)), (2, .long (lZ (inp 0)))] [] := by
    intro t1
    induction t1 with
    | zero => intro k M2 a1 a2; exact absurd a2 (by omega)
    | succ t1 ih1 =>
      intro k M2 a1 a2 hP2 hT2 hG2 hO2 hM2
      have htk2 : M2.2.1 5 f = nI i := by rw [hP2.2.1 5 (by decide)]; exact htk
      have hF2 := hF.pg hP2
      have hin2 : ∀ k, k < i → (if k = 0 then inp 0 else (M2.2.1 2 k).toInt) = inp k := by
        intro k hk
        by_cases z : k = 0
        · rw [if_pos z, z]
        · rw [if_neg z, hP2.2.1 2 (by decide), (hin k hk).2 z, iZ_t (zN_I (hin k hk).1)]
      refine AW.run X M_program_d 11 4 rfl ?_
      refine AW.ml5 (j := f) X rfl (by omega) (M_program_d.d 15 rfl) ?_
      rw [htk2]
      refine AW.icmp_ge X (M_program_d.d 16 rfl) (fun q16 => ?_) (fun q16 => ?_)
      · have hki : k = i := by have := cge q16; omega
        rw [hki] at hM2
        refine AW.run X M_program_d 55 2 rfl ?_
        have L97 : ∀ (t2 : Nat) (xi : Int32) (x : Nat × List Nat × pM) (M2 : x_M), ((xi = nI x.1 ∧ gd M2 ∧ MS M2 x.2.2.1 x.2.2.2.1 x.2.2.2.2 ∧ RT M2 x.2.1 ∧ WS x.2.2.1 x.2.2.2.1 x.2.2.2.2 ∧ TK M2 f n Q ∧ ∃ m, m + 1 < t2 ∧ ∃ X, MC pfS (qc Q) (qm Q) (qn Q) m x X ∧ mflt pfS (qc Q) (qm Q) (qn Q) X c p) ∨ (0 < t2 ∧ M2.1 3 = iZ c ∧ M2.1 4 = nI p)) → PG M M2 → AW p0v l e0v (ax_R 9 0 0) s0v m0v args below meth c0v VV G 6 (x_hM S M2 tl) 0 0 (MQ below (ax_Q VV G (fun v h' => v = none ∧ ∃ M', h' = x_hM S M' tl ∧ PG M M' ∧ M'.1 3 = iZ c ∧ M'.1 4 = nI p)) args s0v 0 0 (fun q => G.bs ≤ q)) 97 [(4, .int xi), (0, .ref 153), (1, .int (nI f)), (2, .long (lZ (inp 0)))] [] := by
          intro t2
          induction t2 with
          | zero =>
            rintro xi x M2 (⟨-, -, -, -, -, -, m, hm, -⟩ | ⟨h, -⟩)
            · exact absurd hm (by omega)
            · exact absurd h (by omega)
          | succ t2 ih =>
            intro xi x M2 hX hP2
            have hgv2 : M2.2.1 6 f = nI o := by rw [hP2.2.1 6 (by decide)]; exact hgv
            refine AW.run X M_program_d 57 3 rfl ?_
            have J125 : ∀ (_u : Nat), M2.1 3 = iZ c ∧ M2.1 4 = nI p → AW p0v l e0v (ax_R 9 0 0) s0v m0v args below meth c0v VV G 6 (x_hM S M2 tl) 0 0 (MQ below (ax_Q VV G (fun v h' => v = none ∧ ∃ M', h' = x_hM S M' tl ∧ PG M M' ∧ M'.1 3 = iZ c ∧ M'.1 4 = nI p)) args s0v 0 0 (fun q => G.bs ≤ q)) 125 [(4, .int xi), (0, .ref 153), (1, .int (nI f)), (2, .long (lZ (inp 0)))] [] := by
              intro _u hb
              refine AW.run X M_program_d 70 3 rfl ?_
              refine AW.mp11 X (M_program_d.d 73 rfl) ?_
              have hb3 : (y_i M2 11 (M2.1 6)).1 3 = iZ c := (y_in M2 (k := 11) (j := 3) _ (by decide)).trans hb.1
              have hb4 : (y_i M2 11 (M2.1 6)).1 4 = nI p := (y_in M2 (k := 11) (j := 4) _ (by decide)).trans hb.2
              have hbz : (y_i M2 11 (M2.1 6)).1 3 ≠ -1 := by rw [hb3]; exact hcz
              refine AW.run X M_program_d 74 1 rfl ?_
              refine AW.callV (As := []) X (M_isGoodB_m S (y_i M2 11 (M2.1 6)) tl hbz) cb_M_349 rfl rfl M_isGood_im M_isGood_se rfl ⟨Nat.le_of_ble_eq_true rfl, Nat.le_of_ble_eq_true rfl⟩ (Nat.le_of_ble_eq_true rfl) ⟨Nat.le_of_ble_eq_true rfl, Nat.le_of_ble_eq_true rfl⟩ (M_program_d.d 75 rfl) (fun v h' q => ?_)
              obtain ⟨rfl, rfl⟩ := q
              refine AW.if_eq X (M_program_d.d 76 rfl) (fun q76 => ?_) (fun q76 => absurd rfl q76)
              refine AW.run X M_program_d 87 6 rfl ?_
              refine AW.ml6 (j := f) X rfl (by omega) (M_program_d.d 93 rfl) ?_
              rw [(show (y_i M2 11 (M2.1 6)).2.1 6 f = nI o from hgv2)]
              refine AW.icmp_ge X (M_program_d.d 94 rfl) (fun q94 => absurd (cge (a := 0) (b := o) q94 (by decide) rfl) (by omega)) (fun q94 => ?_)
              refine AW.run X M_program_d 95 1 rfl ?_
              refine AW.callV (As := []) X (M_isGoodB_m S (y_i M2 11 (M2.1 6)) tl hbz) cb_M_349 rfl rfl M_isGood_im M_isGood_se rfl ⟨Nat.le_of_ble_eq_true rfl, Nat.le_of_ble_eq_true rfl⟩ (Nat.le_of_ble_eq_true rfl) ⟨Nat.le_of_ble_eq_true rfl, Nat.le_of_ble_eq_true rfl⟩ (M_program_d.d 96 rfl) (fun v h' q => ?_)
              obtain ⟨rfl, rfl⟩ := q
              refine AW.if_eq X (M_program_d.d 97 rfl) (fun q97 => ?_) (fun q97 => absurd rfl q97)
              refine AW.run X M_program_d 108 6 rfl ?_
              refine AW.ml6 (j := f) X rfl (by omega) (M_program_d.d 114 rfl) ?_
              rw [(show (y_i M2 11 (M2.1 6)).2.1 6 f = nI o from hgv2)]
              refine AW.icmp_ge X (M_program_d.d 115 rfl) (fun q115 => absurd (cge (a := 0) (b := o) q115 (by decide) rfl) (by omega)) (fun q115 => ?_)
              refine AW.run X M_program_d 116 1 rfl ?_
              refine AW.callV (As := []) X (M_isGoodB_m S (y_i M2 11 (M2.1 6)) tl hbz) cb_M_349 rfl rfl M_isGood_im M_isGood_se rfl ⟨Nat.le_of_ble_eq_true rfl, Nat.le_of_ble_eq_true rfl⟩ (Nat.le_of_ble_eq_true rfl) ⟨Nat.le_of_ble_eq_true rfl, Nat.le_of_ble_eq_true rfl⟩ (M_program_d.d 117 rfl) (fun v h' q => ?_)
              obtain ⟨rfl, rfl⟩ := q
              refine AW.if_eq X (M_program_d.d 118 rfl) (fun q118 => ?_) (fun q118 => absurd rfl q118)
              exact AW.vret X (M_program_d.d 158 rfl) (Nat.le_of_ble_eq_true rfl) (Nat.le_of_ble_eq_true rfl) ⟨rfl, _, rfl, hP2.i (k := 11) _ (by decide), hb3, hb4⟩
            refine AW.icmp_ge X (M_program_d.d 60 rfl) (fun q60 => ?_) (fun q60 => ?_)
            · exact J125 0 (by
                rcases hX with z | z
                · obtain ⟨hxi, -, -, -, -, hT2, m, -, X, hC, hmf⟩ := z
                  have h1 := ch_lt hC hmf
                  have h2 := cge (a := x.1) (b := qn Q) q60 hxi hT2.1 (by omega) (by omega)
                  omega
                · exact ⟨z.2.1, z.2.2⟩)
            · refine AW.run X M_program_d 61 1 rfl ?_
              refine AW.callV (As := []) X (M_isGood_m S M2 tl) cb_M_349 rfl rfl M_isGood_im M_isGood_se rfl ⟨Nat.le_of_ble_eq_true rfl, Nat.le_of_ble_eq_true rfl⟩ (Nat.le_of_ble_eq_true rfl) ⟨Nat.le_of_ble_eq_true rfl, Nat.le_of_ble_eq_true rfl⟩ (M_program_d.d 62 rfl) (fun v h' q => ?_)
              obtain ⟨rfl, rfl⟩ := q
              refine AW.if_eq X (M_program_d.d 63 rfl) (fun q63 => ?_) (fun q63 => ?_)
              · exact J125 0 (by
                  rcases hX with z | z
                  · exact absurd (dc_t z.2.1.1) (by rw [(bI_0 _).mp q63]; decide)
                  · exact ⟨z.2.1, z.2.2⟩)
              · have hgd : M2.1 3 = -1 := Classical.byContradiction fun y => q63 (by rw [dc_f y]; rfl)
                obtain ⟨hxi, hG2, hM2, hR2, hW2, hT2, m, hm, XX, hC, hmf⟩ := hX.resolve_right (fun z => hcz (z.2.1.symm.trans hgd))
                subst hxi
                have hN : AM l VV G M_next_y M_next_c 3 (some .int) 8 0 0 [.ref 153, .int (nI f), .int (nI x.1)] (x_hM S M2 tl) (fun v h' => (∃ z, (∃ m, m + 1 < t2 ∧ ∃ X, MC pfS (qc Q) (qm Q) (qn Q) m z X ∧ mflt pfS (qc Q) (qm Q) (qn Q) X c p) ∧ WS z.2.2.1 z.2.2.2.1 z.2.2.2.2 ∧ nx S tl M2 z v h') ∨ nxF S tl M2 c p v h') := by
                  cases m with
                  | zero =>
                    have hxX : x = XX := hC
                    exact (M_nextF S M2 tl f n Q x c p hf hT2 h12 hG2 hW2 hM2 hR2 (by rw [hxX]; exact hmf)).mono (fun v h' q => Or.inr q)
                  | succ m =>
                    obtain ⟨z, hz, hC2⟩ := hC
                    have h9 := M_nextS (l := l) (G := G) S M2 tl f n Q x z hf hT2 h12 h38 hG2 hW2 hM2 hR2 hz
                    exact h9.1.mono (fun v h' q => Or.inl ⟨z, ⟨m, by omega, XX, hC2, hmf⟩, h9.2, q⟩)
                refine AW.run X M_program_d 64 3 rfl ?_
                refine AW.callV (As := [.int (nI f), .int (nI x.1)]) X hN cb_M_376 rfl rfl M_next_im M_next_se rfl ⟨Nat.le_of_ble_eq_true rfl, Nat.le_of_ble_eq_true rfl⟩ (Nat.le_of_ble_eq_true rfl) ⟨Nat.le_of_ble_eq_true rfl, Nat.le_of_ble_eq_true rfl⟩ (M_program_d.d 67 rfl) (fun v h' q => ?_)
                rcases q with ⟨z, hz, hWz, M8, rfl, rfl, p1, p2, p3, p4⟩ | ⟨M8, rfl, ⟨x9, rfl⟩, p1, p2, p3⟩
                · refine AW.run X M_program_d 68 1 rfl ?_
                  refine AW.goto X (M_program_d.d 69 rfl) ?_
                  exact ih (nI z.1) z M8 (Or.inl ⟨rfl, p2, p3, p4, hWz, hT2.pf p1, hz⟩) (hP2.trans (PG.of p1))
                · refine AW.run X M_program_d 68 1 rfl ?_
                  refine AW.goto X (M_program_d.d 69 rfl) ?_
                  exact ih x9 x M8 (Or.inr ⟨by omega, p2, p3⟩) (hP2.trans (PG.of p1))
        obtain ⟨m0, X0, hm0, hm1⟩ := hrun
        exact L97 (m0 + 2) (nI 1) (1, [], (i, uIn inp q, tNo)) M2 (Or.inl ⟨rfl, hG2, hM2, ⟨hO2, fun j hj => absurd hj (Nat.not_lt_zero j)⟩, ⟨by show i ≤ 60; omega, fun j hj => ⟨zcut_N (hin j hj).1 (hF.2.2 (2 * j) (by have : j < i := hj; omega)).2 (hF.2.2 (2 * j + 1) (by have : j < i := hj; omega)).2, fun z => by cases z⟩⟩, hT2, m0, by omega, X0, hm0, hm1⟩) hP2
      · have hk : k < i := clt q16
        refine AW.run X M_program_d 17 7 rfl ?_
        refine AW.callV (As := [.int (nI k), .long (lZ (inp 0))]) X (M_inputOf_m S M2 tl k (inp 0) (by omega)) cb_M_331 rfl rfl M_inputOf_im M_inputOf_se rfl ⟨Nat.le_of_ble_eq_true rfl, Nat.le_of_ble_eq_true rfl⟩ (Nat.le_of_ble_eq_true rfl) ⟨Nat.le_of_ble_eq_true rfl, Nat.le_of_ble_eq_true rfl⟩ (M_program_d.d 24 rfl) (fun v h' q => ?_)
        obtain ⟨rfl, rfl⟩ := q
        rw [show (if k = 0 then inp 0 else (M2.2.1 2 k).toInt) = inp k from hin2 k (by omega)]
        refine AW.run X M_program_d 25 5 rfl ?_
        rw [(show Int32.ofInt 2 * nI k = nI (2 * k) from pk_mul 2 k)]
        refine AW.callV (As := [.int (nI f), .int (nI (2 * k))]) X (M_ofq_m S M2 tl f (2 * k) _ q hF2 (by omega)) cb_M_320 rfl rfl M_of_im M_of_se rfl ⟨Nat.le_of_ble_eq_true rfl, Nat.le_of_ble_eq_true rfl⟩ (Nat.le_of_ble_eq_true rfl) ⟨Nat.le_of_ble_eq_true rfl, Nat.le_of_ble_eq_true rfl⟩ (M_program_d.d 30 rfl) (fun v h' q => ?_)
        obtain ⟨rfl, rfl⟩ := q
        refine AW.run X M_program_d 31 7 rfl ?_
        rw [(show Int32.ofInt 2 * nI k = nI (2 * k) from pk_mul 2 k), nI_o1]
        refine AW.callV (As := [.int (nI f), .int (nI (2 * k + 1))]) X (M_ofq_m S M2 tl f (2 * k + 1) _ q hF2 (by omega)) cb_M_320 rfl rfl M_of_im M_of_se rfl ⟨Nat.le_of_ble_eq_true rfl, Nat.le_of_ble_eq_true rfl⟩ (Nat.le_of_ble_eq_true rfl) ⟨Nat.le_of_ble_eq_true rfl, Nat.le_of_ble_eq_true rfl⟩ (M_program_d.d 38 rfl) (fun v h' q => ?_)
        obtain ⟨rfl, rfl⟩ := q
        refine AW.callS (As := [.long (lZ (inp k)), .long (lZ (q (2 * k))), .long (lZ (q (2 * k + 1)))]) X (M_cutTo_m (inp k) (q (2 * k)) (q (2 * k + 1)) (zN_L (hin k (by omega)).1) (zN_L (hF.2.2 (2 * k) (by omega)).2) (zN_L (hF.2.2 (2 * k + 1) (by omega)).2)) cb_M_104 M_cutTo_st rfl ⟨Nat.le_of_ble_eq_true rfl, Nat.le_of_ble_eq_true rfl⟩ (Nat.le_of_ble_eq_true rfl) ⟨Nat.le_of_ble_eq_true rfl, Nat.le_of_ble_eq_true rfl⟩ (M_program_d.d 39 rfl) (fun v h' q => ?_)
        obtain ⟨rfl, rfl⟩ := q
        rw [show zcut (inp k) (q (2 * k)) (q (2 * k + 1)) = uIn inp q k from rfl]
        refine AW.msl3 (j := k) X hM2.1 (by omega) (M_program_d.d 40 rfl) ?_
        refine AW.run X M_program_d 41 5 rfl ?_
        refine AW.ms13 (j := k) X hM2.1 (by omega) (M_program_d.d 46 rfl) ?_
        refine AW.run X M_program_d 47 5 rfl ?_
        refine AW.mp9 X (M_program_d.d 52 rfl) ?_
        refine AW.run X M_program_d 53 1 rfl ?_
        refine AW.goto X (M_program_d.d 54 rfl) ?_
        rw [nI_o1 k]
        exact ih1 (k + 1) _ (by omega) (by omega) (((hP2.l (k := 3) k _ (Or.inr rfl)).a (k := 13) k _ (by decide)).i (k := 9) _ (by decide)) (hT2.pf ((((PF.refl M2).l k _).a (k := 13) k _ (Or.inl rfl)).i (k := 9) _ (by decide))) (gd_i (by decide) hG2) ((y_in _ (k := 9) (j := 10) _ (by decide)).trans hO2) (hM2.in rfl (by rw [← hM2.1]; rfl))
  exact L18 (i + 1) 0 _ (by omega) (by omega) ((hP1.i (k := 9) _ (by decide)).i (k := 10) _ (by decide)) (hT1.pf (((PF.refl M1).i (k := 9) _ (by decide)).i (k := 10) _ (by decide))) (gd_i (by decide) (gd_i (by decide) ⟨(q1.1 3 (by decide)).trans hG.1, (q1.1 4 (by decide)).trans hG.2⟩)) (y_ig _ 10 _) ⟨(y_in _ (k := 10) (j := 9) _ (by decide)).trans (y_ig M1 9 _), fun j hj => absurd hj (by omega)⟩

