/-! matching braces, and what a choice does -/
theorem ism_lv {cs : Nat → Nat} {w e k : Nat} (h : ism cs w e) (h1 : w < k) (h2 : k ≤ e + 1) : 0 < dp cs k - dp cs w ↔ k ≤ e := by
  constructor
  · intro z
    apply Classical.byContradiction
    intro y
    have : k = e + 1 := by omega
    rw [this, h.2.2.2.2] at z
    omega
  · intro z
    have := h.2.2.2.1 k h1 z
    omega
theorem iZ_p {z : Int} (h : zI z) : iZ z ≤ 0 ↔ z ≤ 0 := iZ_le (b := 0) h ⟨by decide, by decide⟩

set_option maxHeartbeats 4000000 in
set_option maxRecDepth 100000 in
theorem M_matchOf_m {l : Launch} {G : ax_G} (S : x_S) (M : x_M) (tl : List va_E) (f w e n : Nat) (Q : pP) (hf : f < 24) (hT : TK M f n Q) (hm : ism (qc Q) w e) (he : e < qn Q) :
    AM l VV G M_matchOf_y M_matchOf_c 6 (some .int) 5 0 0 [.ref 153, .int (nI f), .int (nI w)] (x_hM S M tl) (fun v h' => v = some (.int (nI e)) ∧ h' = x_hM S M tl) := by
  refine AM.of (pl := pl_M) (by decide) v_good fl_M_ok kl_M_ok nofun (Nat.le_of_ble_eq_true rfl) ?_
  intro p0v e0v s0v m0v args below meth c0v X
  have h400 := hT.2.1
  have hwe := hm.1
  refine AW.run X M_matchOf_d 0 6 rfl ?_
  have L8 : ∀ (t2 k : Nat) (b : Bool), w ≤ k → k ≤ e + 1 → (b = true ↔ k ≤ e) → e + 1 - k < t2 → AW p0v l e0v (ax_R 5 0 0) s0v m0v args below meth c0v VV G 6 (x_hM S M tl) 0 0 (MQ below (ax_Q VV G (fun v h' => v = some (.int (nI e)) ∧ h' = x_hM S M tl)) args s0v 0 0 (fun q => G.bs ≤ q)) 8 [(5, .int (bI b)), (4, .int (nI k)), (3, .int (iZ (dp (qc Q) k - dp (qc Q) w))), (0, .ref 153), (1, .int (nI f)), (2, .int (nI w))] [] := by
    intro t2
    induction t2 with
    | zero => intro k b h1 h2 h3 h4; exact absurd h4 (by omega)
    | succ t2 ih =>
      intro k b h1 h2 h3 h4
      refine AW.run X M_matchOf_d 6 1 rfl ?_
      refine AW.if_eq X (M_matchOf_d.d 7 rfl) (fun q7 => ?_) (fun q7 => ?_)
      · have hke : k = e + 1 := by
          have : ¬k ≤ e := fun z => by
            have := h3.mpr z
            rw [(bI_0 _).mp q7] at this
            cases this
          omega
        refine AW.run X M_matchOf_d 38 3 rfl ?_
        exact AW.iret X (M_matchOf_d.d 41 rfl) (Nat.le_of_ble_eq_true rfl) (Nat.le_of_ble_eq_true rfl) ⟨by rw [hke]; exact congrArg (fun z => some (Value.int z)) (pk_sub (b := 1) (by omega)), rfl⟩
      · have hk : k ≤ e := h3.mp (Bool.of_not_eq_false (fun y => q7 ((bI_0 _).mpr y)))
        have b1 := dp_b (qc Q) k
        have b2 := dp_b (qc Q) w
        have b3 := dp_b (qc Q) (k + 1)
        refine AW.run X M_matchOf_d 8 3 rfl ?_
        refine AW.ldcW X (List.mem_of_getElem? (i := 46) rfl) (M_matchOf_d.d 11 rfl) ?_
        refine AW.callV (As := [.int (nI f), .int (nI k), .ref 39]) X (M_isWd_m S M tl f k 0 n Q hf hT (by omega) (by decide) (by decide)) cb_M_188 rfl rfl M_isWord_im M_isWord_se rfl ⟨Nat.le_of_ble_eq_true rfl, Nat.le_of_ble_eq_true rfl⟩ (Nat.le_of_ble_eq_true rfl) ⟨Nat.le_of_ble_eq_true rfl, Nat.le_of_ble_eq_true rfl⟩ (M_matchOf_d.d 12 rfl) (fun v h' q => ?_)
        obtain ⟨rfl, rfl⟩ := q
        have J52 : ∀ (z : Int32), z = iZ (dp (qc Q) (k + 1) - dp (qc Q) w) → AW p0v l e0v (ax_R 5 0 0) s0v m0v args below meth c0v VV G 6 (x_hM S M tl) 0 0 (MQ below (ax_Q VV G (fun v h' => v = some (.int (nI e)) ∧ h' = x_hM S M tl)) args s0v 0 0 (fun q => G.bs ≤ q)) 52 [(5, .int (bI b)), (4, .int (nI k)), (3, .int (iZ (dp (qc Q) k - dp (qc Q) w))), (0, .ref 153), (1, .int (nI f)), (2, .int (nI w))] [.int z] := by
          intro z hz; subst hz
          refine AW.run X M_matchOf_d 29 2 rfl ?_
          refine AW.if_le X (M_matchOf_d.d 31 rfl) (fun q31 => ?_) (fun q31 => ?_)
          · refine AW.run X M_matchOf_d 34 3 rfl ?_
            refine AW.goto X (M_matchOf_d.d 37 rfl) ?_
            refine AW.pk [1, 0, 2, 3, 4, 5] rfl ?_
            rw [nI_o1]
            exact ih (k + 1) false (by omega) (by omega) ⟨fun z => (by cases z), fun z => by have := (iZ_p ⟨by omega, by omega⟩).mp q31; have := (ism_lv hm (by omega) (by omega)).mpr z; omega⟩ (by omega)
          · refine AW.run X M_matchOf_d 32 1 rfl ?_
            refine AW.goto X (M_matchOf_d.d 33 rfl) ?_
            refine AW.run X M_matchOf_d 35 2 rfl ?_
            refine AW.goto X (M_matchOf_d.d 37 rfl) ?_
            refine AW.pk [1, 0, 2, 3, 4, 5] rfl ?_
            rw [nI_o1]
            exact ih (k + 1) true (by omega) (by omega) ⟨fun _ => (ism_lv hm (by omega) (by omega)).mp (by have := mt (iZ_p (z := dp (qc Q) (k + 1) - dp (qc Q) w) ⟨by omega, by omega⟩).mpr q31; omega), fun _ => rfl⟩ (by omega)
        refine AW.if_eq X (M_matchOf_d.d 13 rfl) (fun q13 => ?_) (fun q13 => ?_)
        · refine AW.run X M_matchOf_d 18 3 rfl ?_
          refine AW.ldcW X (List.mem_of_getElem? (i := 45) rfl) (M_matchOf_d.d 21 rfl) ?_
          refine AW.callV (As := [.int (nI f), .int (nI k), .ref 40]) X (M_isWd_m S M tl f k 1 n Q hf hT (by omega) (by decide) (by decide)) cb_M_188 rfl rfl M_isWord_im M_isWord_se rfl ⟨Nat.le_of_ble_eq_true rfl, Nat.le_of_ble_eq_true rfl⟩ (Nat.le_of_ble_eq_true rfl) ⟨Nat.le_of_ble_eq_true rfl, Nat.le_of_ble_eq_true rfl⟩ (M_matchOf_d.d 22 rfl) (fun v h' q => ?_)
          obtain ⟨rfl, rfl⟩ := q
          refine AW.if_eq X (M_matchOf_d.d 23 rfl) (fun q23 => ?_) (fun q23 => ?_)
          · refine AW.run X M_matchOf_d 28 1 rfl ?_
            exact J52 _ (by rw [dp_w (cs := qc Q) (k := k) (by have h0 := (of_decide_eq_false ((bI_0 _).mp q13)); have h1 := (of_decide_eq_false ((bI_0 _).mp q23)); omega)])
          · refine AW.run X M_matchOf_d 24 3 rfl ?_
            refine AW.goto X (M_matchOf_d.d 27 rfl) ?_
            exact J52 _ (by rw [dp_c (cs := qc Q) (k := k) (of_decide_eq_true (Bool.of_not_eq_false (fun y => q23 ((bI_0 _).mpr y)))), show Int32.ofInt 1 = iZ 1 from rfl, iZ_sub]; congr 1; omega)
        · refine AW.run X M_matchOf_d 14 3 rfl ?_
          refine AW.goto X (M_matchOf_d.d 17 rfl) ?_
          exact J52 _ (by rw [dp_o (cs := qc Q) (k := k) (of_decide_eq_true (Bool.of_not_eq_false (fun y => q13 ((bI_0 _).mpr y)))), show Int32.ofInt 1 = iZ 1 from rfl, iZ_add]; congr 1; omega)
  have e0 : dp (qc Q) w - dp (qc Q) w = 0 := Int.sub_self _
  rw [show Int32.ofInt 0 = iZ (dp (qc Q) w - dp (qc Q) w) by rw [e0]; rfl]
  exact L8 (e + 2) w true (by omega) (by omega) ⟨fun _ => by omega, fun _ => rfl⟩ (by omega)

set_option maxHeartbeats 4000000 in
set_option maxRecDepth 100000 in
theorem M_choose_m {l : Launch} {G : ax_G} (S : x_S) (M : x_M) (tl : List va_E) (f w e g n : Nat) (sl : Bool) (st : List Nat) (Q : pP) (hf : f < 24) (hT : TK M f n Q) (h1 : ism (qc Q) w e) (h2 : decide (qc Q (e + 1) = 37) = sl) (h3 : sl = true → g = e) (h4 : sl = false → ism (qc Q) (e + 1) g) (hg : g + 2 < qn Q) (heg : e ≤ g) (hR : RT M st) (hst : st.length < 20) (n0 : Nat) (u : Nat → Int) (t : Nat → Bool) (hG : gd M) (hW : WS n0 u t) (hM : MS M n0 u t) :
    AM l VV G M_choose_y M_choose_c 7 (some .int) 6 0 0 [.ref 153, .int (nI f), .int (nI w)] (x_hM S M tl) (fun v h' => ((pchoice n0 u t).1 = -1 ∧ ∃ M', h' = x_hM S M' tl ∧ v = some (.int (nI (if u (n0 - 1) = 1 then w + 1 else if sl = true then g + 2 else e + 2))) ∧ PF M M' ∧ gd M' ∧ MS M' (n0 - 1) u t ∧ RT M' (if u (n0 - 1) = 1 ∨ sl = false then (g + 2) :: st else st)) ∨ ((pchoice n0 u t).1 ≠ -1 ∧ ∃ M', h' = x_hM S M' tl ∧ (∃ x, v = some (.int x)) ∧ PF M M' ∧ M'.1 3 = iZ (pchoice n0 u t).1 ∧ M'.1 4 = nI (g + 1))) := by
  refine AM.of (pl := pl_M) (by decide) v_good fl_M_ok kl_M_ok nofun (Nat.le_of_ble_eq_true rfl) ?_
  intro p0v e0v s0v m0v args below meth c0v X
  have h400 := hT.2.1
  have h60 := hW.1
  refine AW.run X M_choose_d 0 3 rfl ?_
  refine AW.callV (As := [.int (nI f), .int (nI w)]) X (M_matchOf_m S M tl f w e n Q hf hT h1 (by omega)) cb_M_389 rfl rfl M_matchOf_im M_matchOf_se rfl ⟨Nat.le_of_ble_eq_true rfl, Nat.le_of_ble_eq_true rfl⟩ (Nat.le_of_ble_eq_true rfl) ⟨Nat.le_of_ble_eq_true rfl, Nat.le_of_ble_eq_true rfl⟩ (M_choose_d.d 3 rfl) (fun v h' q => ?_)
  obtain ⟨rfl, rfl⟩ := q
  refine AW.run X M_choose_d 4 6 rfl ?_
  refine AW.ldcS X (List.mem_of_getElem? (i := 9) rfl) (M_choose_d.d 10 rfl) ?_
  rw [nI_o1]
  refine AW.callV (As := [.int (nI f), .int (nI (e + 1)), .ref 76]) X (M_isWd_m S M tl f (e + 1) 37 n Q hf hT (by omega) (by decide) (by decide)) cb_M_188 rfl rfl M_isWord_im M_isWord_se rfl ⟨Nat.le_of_ble_eq_true rfl, Nat.le_of_ble_eq_true rfl⟩ (Nat.le_of_ble_eq_true rfl) ⟨Nat.le_of_ble_eq_true rfl, Nat.le_of_ble_eq_true rfl⟩ (M_choose_d.d 11 rfl) (fun v h' q => ?_)
  obtain ⟨rfl, rfl⟩ := q
  rw [h2]
  refine AW.run X M_choose_d 12 2 rfl ?_
  have J36 : ∀ (z : Int32), z = nI g → AW p0v l e0v (ax_R 6 0 0) s0v m0v args below meth c0v VV G 7 (x_hM S M tl) 0 0 (MQ below (ax_Q VV G (fun v h' => ((pchoice n0 u t).1 = -1 ∧ ∃ M', h' = x_hM S M' tl ∧ v = some (.int (nI (if u (n0 - 1) = 1 then w + 1 else if sl = true then g + 2 else e + 2))) ∧ PF M M' ∧ gd M' ∧ MS M' (n0 - 1) u t ∧ RT M' (if u (n0 - 1) = 1 ∨ sl = false then (g + 2) :: st else st)) ∨ ((pchoice n0 u t).1 ≠ -1 ∧ ∃ M', h' = x_hM S M' tl ∧ (∃ x, v = some (.int x)) ∧ PF M M' ∧ M'.1 3 = iZ (pchoice n0 u t).1 ∧ M'.1 4 = nI (g + 1)))) args s0v 0 0 (fun q => G.bs ≤ q)) 36 [(4, .int (bI sl)), (3, .int (nI e)), (0, .ref 153), (1, .int (nI f)), (2, .int (nI w))] [.int z] := by
    intro z hz; subst hz
    refine AW.run X M_choose_d 23 5 rfl ?_
    refine AW.mp11 X (M_choose_d.d 28 rfl) ?_
    have hG1 : gd (y_i M 11 (nI g + Int32.ofInt 1)) := gd_i (by decide) hG
    have hM1 : MS (y_i M 11 (nI g + Int32.ofInt 1)) n0 u t := hM.fr (y_in M (k := 11) (j := 9) (nI g + Int32.ofInt 1) (by decide)) rfl rfl
    have hPT : PF M (y_i M 11 (nI g + Int32.ofInt 1)) := (PF.refl M).i (k := 11) _ (by decide)
    refine AW.run X M_choose_d 29 2 rfl ?_
    refine AW.callV (As := [.int (nI 1)]) X (M_has1_m S (y_i M 11 (nI g + Int32.ofInt 1)) tl n0 u t hG1 hW hM1) cb_M_363 rfl rfl M_has_im M_has_se rfl ⟨Nat.le_of_ble_eq_true rfl, Nat.le_of_ble_eq_true rfl⟩ (Nat.le_of_ble_eq_true rfl) ⟨Nat.le_of_ble_eq_true rfl, Nat.le_of_ble_eq_true rfl⟩ (M_choose_d.d 31 rfl) (fun v h' q => ?_)
    rcases q with ⟨hc, rfl, rfl⟩ | ⟨hc, rfl, rfl⟩
    · have hn1 : 1 ≤ n0 := by
        unfold ph at hc
        by_cases z : n0 < 1
        · rw [if_pos z] at hc; exact absurd hc (by decide)
        · omega
      refine AW.if_eq X (M_choose_d.d 32 rfl) (fun q32 => absurd q32 (by decide)) (fun q32 => ?_)
      refine AW.run X M_choose_d 33 6 rfl ?_
      refine AW.ml13 (j := n0 - 1) X (hM1.i (k := 1) hn1) (by omega) (M_choose_d.d 39 rfl) ?_
      rw [(hM1.2 (n0 - 1) (by omega)).2]
      refine AW.if_ne X (M_choose_d.d 40 rfl) (fun q40 => ?_) (fun q40 => ?_)
      · refine AW.run X M_choose_d 44 1 rfl ?_
        refine AW.callV (As := []) X (M_isGoodG_m S (y_i M 11 (nI g + Int32.ofInt 1)) tl hG1) cb_M_349 rfl rfl M_isGood_im M_isGood_se rfl ⟨Nat.le_of_ble_eq_true rfl, Nat.le_of_ble_eq_true rfl⟩ (Nat.le_of_ble_eq_true rfl) ⟨Nat.le_of_ble_eq_true rfl, Nat.le_of_ble_eq_true rfl⟩ (M_choose_d.d 45 rfl) (fun v h' q => ?_)
        obtain ⟨rfl, rfl⟩ := q
        refine AW.if_ne X (M_choose_d.d 46 rfl) (fun q46 => ?_) (fun q46 => absurd q46 (by decide))
        have ht : t (n0 - 1) = true := Bool.of_not_eq_false (fun y => q40 ((bI_0 _).mpr y))
        have hu := hW.2 (n0 - 1) (by omega)
        refine AW.run X M_choose_d 50 1 rfl ?_
        refine AW.callV (As := []) X (M_take_m S (y_i M 11 (nI g + Int32.ofInt 1)) tl n0 u t hW.1 hM1 hn1) cb_M_392 rfl rfl M_take_im M_take_se rfl ⟨Nat.le_of_ble_eq_true rfl, Nat.le_of_ble_eq_true rfl⟩ (Nat.le_of_ble_eq_true rfl) ⟨Nat.le_of_ble_eq_true rfl, Nat.le_of_ble_eq_true rfl⟩ (M_choose_d.d 51 rfl) (fun v h' q => ?_)
        obtain ⟨rfl, rfl⟩ := q
        refine AW.run X M_choose_d 52 2 rfl ?_
        have J100 : ∀ (z : Int32), z = bI (decide (u (n0 - 1) = 1)) → AW p0v l e0v (ax_R 6 0 0) s0v m0v args below meth c0v VV G 7 (x_hM S (y_i (y_i M 11 (nI g + Int32.ofInt 1)) 9 (nI (n0 - 1))) tl) 0 0 (MQ below (ax_Q VV G (fun v h' => ((pchoice n0 u t).1 = -1 ∧ ∃ M', h' = x_hM S M' tl ∧ v = some (.int (nI (if u (n0 - 1) = 1 then w + 1 else if sl = true then g + 2 else e + 2))) ∧ PF M M' ∧ gd M' ∧ MS M' (n0 - 1) u t ∧ RT M' (if u (n0 - 1) = 1 ∨ sl = false then (g + 2) :: st else st)) ∨ ((pchoice n0 u t).1 ≠ -1 ∧ ∃ M', h' = x_hM S M' tl ∧ (∃ x, v = some (.int x)) ∧ PF M M' ∧ M'.1 3 = iZ (pchoice n0 u t).1 ∧ M'.1 4 = nI (g + 1)))) args s0v 0 0 (fun q => G.bs ≤ q)) 100 [(5, .int (nI g)), (4, .int (bI sl)), (3, .int (nI e)), (0, .ref 153), (1, .int (nI f)), (2, .int (nI w))] [.int z] := by
          intro z hz; subst hz
          refine AW.run X M_choose_d 58 8 rfl ?_
          refine AW.ms14 (j := st.length) X hR.1 hst (M_choose_d.d 66 rfl) ?_
          have hP3 : PF M (y_a (y_i (y_i M 11 (nI g + Int32.ofInt 1)) 9 (nI (n0 - 1))) 14 st.length (nI g + Int32.ofInt 2)) := (hPT.i (k := 9) _ (by decide)).a (k := 14) _ _ (Or.inr rfl)
          have hG3 : gd (y_a (y_i (y_i M 11 (nI g + Int32.ofInt 1)) 9 (nI (n0 - 1))) 14 st.length (nI g + Int32.ofInt 2)) := show gd (y_i (y_i M 11 (nI g + Int32.ofInt 1)) 9 (nI (n0 - 1))) from gd_i (by decide) hG1
          have hS3 : MS (y_a (y_i (y_i M 11 (nI g + Int32.ofInt 1)) 9 (nI (n0 - 1))) 14 st.length (nI g + Int32.ofInt 2)) (n0 - 1) u t := ⟨y_ig (y_i M 11 (nI g + Int32.ofInt 1)) 9 (nI (n0 - 1)), fun j hj => hM.2 j (by omega)⟩
          have h10 : (y_a (y_i (y_i M 11 (nI g + Int32.ofInt 1)) 9 (nI (n0 - 1))) 14 st.length (nI g + Int32.ofInt 2)).1 10 = nI st.length := ((y_in (y_i M 11 (nI g + Int32.ofInt 1)) (k := 9) (j := 10) (nI (n0 - 1)) (by decide)).trans (y_in M (k := 11) (j := 10) (nI g + Int32.ofInt 1) (by decide))).trans hR.1
          have h2n : nI g + Int32.ofInt 2 = nI (g + 2) := nI_add g 2
          refine AW.run X M_choose_d 67 1 rfl ?_
          refine AW.if_ne X (M_choose_d.d 68 rfl) (fun q68 => ?_) (fun q68 => ?_)
          · refine AW.run X M_choose_d 71 5 rfl ?_
            refine AW.mp10 X (M_choose_d.d 76 rfl) ?_
            refine AW.run X M_choose_d 77 1 rfl ?_
            refine AW.if_eq X (M_choose_d.d 78 rfl) (fun q78 => absurd ((bI_0 _).mp q78) (fun y => q68 ((bI_0 _).mpr y))) (fun q78 => ?_)
            refine AW.run X M_choose_d 79 3 rfl ?_
            refine AW.goto X (M_choose_d.d 82 rfl) ?_
            exact AW.iret X (M_choose_d.d 92 rfl) (Nat.le_of_ble_eq_true rfl) (Nat.le_of_ble_eq_true rfl) (Or.inl ⟨(by unfold pchoice; rw [if_neg (by omega), if_neg (by rw [ht]; decide)]), _, rfl, by rw [if_pos (of_decide_eq_true (Bool.of_not_eq_false (fun y => q68 ((bI_0 _).mpr y)))), nI_o1], (hP3.i (k := 10) _ (by decide)), (gd_i (by decide) hG3), (hS3.fr (y_in (y_a (y_i (y_i M 11 (nI g + Int32.ofInt 1)) 9 (nI (n0 - 1))) 14 st.length (nI g + Int32.ofInt 2)) (k := 10) (j := 9) _ (by decide)) rfl rfl), by rw [if_pos (Or.inl (of_decide_eq_true (Bool.of_not_eq_false (fun y => q68 ((bI_0 _).mpr y)))))]; exact (hR.push (by rw [y_ig, h10, nI_o1]) (by show upd _ _ (nI g + Int32.ofInt 2) = _; rw [h2n]; rfl))⟩)
          · refine AW.run X M_choose_d 69 1 rfl ?_
            refine AW.if_ne X (M_choose_d.d 70 rfl) (fun q70 => ?_) (fun q70 => ?_)
            · refine AW.run X M_choose_d 77 1 rfl ?_
              refine AW.if_eq X (M_choose_d.d 78 rfl) (fun q78 => ?_) (fun q78 => absurd q68 q78)
              refine AW.run X M_choose_d 83 1 rfl ?_
              refine AW.if_eq X (M_choose_d.d 84 rfl) (fun q84 => absurd q84 q70) (fun q84 => ?_)
              refine AW.run X M_choose_d 85 3 rfl ?_
              refine AW.goto X (M_choose_d.d 88 rfl) ?_
              exact AW.iret X (M_choose_d.d 92 rfl) (Nat.le_of_ble_eq_true rfl) (Nat.le_of_ble_eq_true rfl) (Or.inl ⟨(by unfold pchoice; rw [if_neg (by omega), if_neg (by rw [ht]; decide)]), _, rfl, by rw [if_neg (of_decide_eq_false ((bI_0 _).mp q68)), if_pos (Bool.of_not_eq_false (fun y => q70 ((bI_0 _).mpr y))), h2n], hP3, hG3, hS3, by rw [if_neg (fun z => z.elim (of_decide_eq_false ((bI_0 _).mp q68)) (fun y => q70 ((bI_0 _).mpr y)))]; exact hR.keep ((h10).trans hR.1.symm) rfl⟩)
            · refine AW.run X M_choose_d 71 5 rfl ?_
              refine AW.mp10 X (M_choose_d.d 76 rfl) ?_
              refine AW.run X M_choose_d 77 1 rfl ?_
              refine AW.if_eq X (M_choose_d.d 78 rfl) (fun q78 => ?_) (fun q78 => absurd q68 q78)
              refine AW.run X M_choose_d 83 1 rfl ?_
              refine AW.if_eq X (M_choose_d.d 84 rfl) (fun q84 => ?_) (fun q84 => absurd q70 q84)
              refine AW.run X M_choose_d 89 3 rfl ?_
              exact AW.iret X (M_choose_d.d 92 rfl) (Nat.le_of_ble_eq_true rfl) (Nat.le_of_ble_eq_true rfl) (Or.inl ⟨(by unfold pchoice; rw [if_neg (by omega), if_neg (by rw [ht]; decide)]), _, rfl, by rw [if_neg (of_decide_eq_false ((bI_0 _).mp q68)), if_neg (by rw [(bI_0 _).mp q70]; decide)]; exact congrArg (fun z => some (Value.int z)) (nI_add e 2), (hP3.i (k := 10) _ (by decide)), (gd_i (by decide) hG3), (hS3.fr (y_in (y_a (y_i (y_i M 11 (nI g + Int32.ofInt 1)) 9 (nI (n0 - 1))) 14 st.length (nI g + Int32.ofInt 2)) (k := 10) (j := 9) _ (by decide)) rfl rfl), by rw [if_pos (Or.inr ((bI_0 _).mp q70))]; exact (hR.push (by rw [y_ig, h10, nI_o1]) (by show upd _ _ (nI g + Int32.ofInt 2) = _; rw [h2n]; rfl))⟩)
        refine AW.if_ne X (M_choose_d.d 54 rfl) (fun q54 => ?_) (fun q54 => ?_)
        · refine AW.run X M_choose_d 57 1 rfl ?_
          exact J100 _ (by rw [decide_eq_false (fun z => q54 ((lc_eq (a := u (n0 - 1)) (b := 1) (zN_L hu.1) ⟨by decide, by decide⟩).mpr z))]; rfl)
        · refine AW.run X M_choose_d 55 1 rfl ?_
          refine AW.goto X (M_choose_d.d 56 rfl) ?_
          exact J100 _ (by rw [decide_eq_true ((lc_eq (a := u (n0 - 1)) (b := 1) (zN_L hu.1) ⟨by decide, by decide⟩).mp q54)]; rfl)
      · refine AW.run X M_choose_d 41 2 rfl ?_
        refine AW.callV (As := [.int (iZ 10)]) X (M_failG_m S (y_i M 11 (nI g + Int32.ofInt 1)) tl 10 hG1) cb_M_356 rfl rfl M_fail_im M_fail_se rfl ⟨Nat.le_of_ble_eq_true rfl, Nat.le_of_ble_eq_true rfl⟩ (Nat.le_of_ble_eq_true rfl) ⟨Nat.le_of_ble_eq_true rfl, Nat.le_of_ble_eq_true rfl⟩ (M_choose_d.d 43 rfl) (fun v h' q => ?_)
        obtain ⟨rfl, rfl⟩ := q
        refine AW.run X M_choose_d 44 1 rfl ?_
        refine AW.callV (As := []) X (M_isGoodB_m S (bad (y_i M 11 (nI g + Int32.ofInt 1)) 10) tl (by rw [bad_3]; decide)) cb_M_349 rfl rfl M_isGood_im M_isGood_se rfl ⟨Nat.le_of_ble_eq_true rfl, Nat.le_of_ble_eq_true rfl⟩ (Nat.le_of_ble_eq_true rfl) ⟨Nat.le_of_ble_eq_true rfl, Nat.le_of_ble_eq_true rfl⟩ (M_choose_d.d 45 rfl) (fun v h' q => ?_)
        obtain ⟨rfl, rfl⟩ := q
        refine AW.if_ne X (M_choose_d.d 46 rfl) (fun q46 => absurd rfl q46) (fun q46 => ?_)
        refine AW.run X M_choose_d 47 2 rfl ?_
        exact AW.iret X (M_choose_d.d 49 rfl) (Nat.le_of_ble_eq_true rfl) (Nat.le_of_ble_eq_true rfl) (Or.inr ⟨by rw [show (pchoice n0 u t).1 = 10 from (by unfold pchoice; rw [if_neg (by omega), if_pos ((bI_0 _).mp q40)]; rfl)]; decide, _, rfl, ⟨_, rfl⟩, (hPT.trans (PF.of (bad_F _ _))), by rw [bad_3, show (pchoice n0 u t).1 = 10 from (by unfold pchoice; rw [if_neg (by omega), if_pos ((bI_0 _).mp q40)]; rfl)], by rw [bad_4, y_ig, nI_o1]⟩)
    · refine AW.if_eq X (M_choose_d.d 32 rfl) (fun q32 => ?_) (fun q32 => absurd rfl q32)
      refine AW.run X M_choose_d 44 1 rfl ?_
      refine AW.callV (As := []) X (M_isGoodB_m S (bad (y_i M 11 (nI g + Int32.ofInt 1)) (ph 1 n0)) tl (by rw [bad_3]; unfold ph at hc ⊢; by_cases z : n0 < 1; rw [if_pos z]; decide; rw [if_neg z] at hc; exact absurd rfl hc)) cb_M_349 rfl rfl M_isGood_im M_isGood_se rfl ⟨Nat.le_of_ble_eq_true rfl, Nat.le_of_ble_eq_true rfl⟩ (Nat.le_of_ble_eq_true rfl) ⟨Nat.le_of_ble_eq_true rfl, Nat.le_of_ble_eq_true rfl⟩ (M_choose_d.d 45 rfl) (fun v h' q => ?_)
      obtain ⟨rfl, rfl⟩ := q
      refine AW.if_ne X (M_choose_d.d 46 rfl) (fun q46 => absurd rfl q46) (fun q46 => ?_)
      refine AW.run X M_choose_d 47 2 rfl ?_
      exact AW.iret X (M_choose_d.d 49 rfl) (Nat.le_of_ble_eq_true rfl) (Nat.le_of_ble_eq_true rfl) (Or.inr ⟨by rw [show (pchoice n0 u t).1 = 9 from (by unfold pchoice; rw [if_pos (by have := hc; unfold ph at this; by_cases z : n0 < 1; exact z; rw [if_neg z] at this; exact absurd rfl this)]; rfl)]; decide, _, rfl, ⟨_, rfl⟩, (hPT.trans (PF.of (bad_F _ _))), by rw [bad_3, show (pchoice n0 u t).1 = 9 from (by unfold pchoice; rw [if_pos (by have := hc; unfold ph at this; by_cases z : n0 < 1; exact z; rw [if_neg z] at this; exact absurd rfl this)]; rfl), show ph 1 n0 = 9 from by unfold ph at hc ⊢; by_cases z : n0 < 1; rw [if_pos z]; rw [if_neg z] at hc; exact absurd rfl hc], by rw [bad_4, y_ig, nI_o1]⟩)
  refine AW.if_eq X (M_choose_d.d 14 rfl) (fun q14 => ?_) (fun q14 => ?_)
  · refine AW.run X M_choose_d 17 5 rfl ?_
    rw [nI_o1]
    refine AW.callV (As := [.int (nI f), .int (nI (e + 1))]) X (M_matchOf_m S M tl f (e + 1) g n Q hf hT (h4 ((bI_0 _).mp q14)) (by omega)) cb_M_389 rfl rfl M_matchOf_im M_matchOf_se rfl ⟨Nat.le_of_ble_eq_true rfl, Nat.le_of_ble_eq_true rfl⟩ (Nat.le_of_ble_eq_true rfl) ⟨Nat.le_of_ble_eq_true rfl, Nat.le_of_ble_eq_true rfl⟩ (M_choose_d.d 22 rfl) (fun v h' q => ?_)
    obtain ⟨rfl, rfl⟩ := q
    exact J36 _ rfl
  · refine AW.run X M_choose_d 15 1 rfl ?_
    refine AW.goto X (M_choose_d.d 16 rfl) ?_
    exact J36 _ (by rw [h3 (Bool.of_not_eq_false (fun y => q14 ((bI_0 _).mpr y)))])

