/-! the reference: its small methods -/
theorem cge {a b : Nat} {x y : Int32} (q : y ≤ x) (ex : x = nI a := by rfl) (ey : y = nI b := by first | rfl | decide) (ha : a < 2 ^ 31 := by omega) (hb : b < 2 ^ 31 := by omega) : b ≤ a := by subst ex ey; exact (nI_leI hb ha).mp q
theorem clt {a b : Nat} {x y : Int32} (q : ¬ y ≤ x) (ex : x = nI a := by rfl) (ey : y = nI b := by first | rfl | decide) (ha : a < 2 ^ 31 := by omega) (hb : b < 2 ^ 31 := by omega) : a < b := by subst ex ey; exact Nat.not_le.mp fun z => q ((nI_leI hb ha).mpr z)
theorem cgt {a b : Nat} {x y : Int32} (q : y < x) (ex : x = nI a := by rfl) (ey : y = nI b := by first | rfl | decide) (ha : a < 2 ^ 31 := by omega) (hb : b < 2 ^ 31 := by omega) : b < a := by subst ex ey; exact (nI_ltI hb ha).mp q
theorem cle {a b : Nat} {x y : Int32} (q : ¬ y < x) (ex : x = nI a := by rfl) (ey : y = nI b := by first | rfl | decide) (ha : a < 2 ^ 31 := by omega) (hb : b < 2 ^ 31 := by omega) : a ≤ b := by subst ex ey; exact Nat.not_lt.mp fun z => q ((nI_ltI hb ha).mpr z)
theorem ceq {a b : Nat} {x y : Int32} (q : x = y) (ex : x = nI a := by rfl) (ey : y = nI b := by first | rfl | decide) (ha : a < 2 ^ 31 := by omega) (hb : b < 2 ^ 31 := by omega) : a = b := by subst ex ey; exact (nI_eq ha hb).mp q
theorem cne {a b : Nat} {x y : Int32} (q : ¬ x = y) (ex : x = nI a := by rfl) (ey : y = nI b := by first | rfl | decide) (ha : a < 2 ^ 31 := by omega) (hb : b < 2 ^ 31 := by omega) : a ≠ b := by subst ex ey; exact fun z => q ((nI_eq ha hb).mpr z)
theorem vb_t {P : Prop} [Decidable P] (h : P) : some (Value.int (Int32.ofInt 1)) = some (.int (bI (decide P))) := by rw [decide_eq_true h]; rfl
theorem vb_f {P : Prop} [Decidable P] (h : ¬ P) : some (Value.int (Int32.ofInt 0)) = some (.int (bI (decide P))) := by rw [decide_eq_false h]; rfl
theorem bq_t {P : Prop} [Decidable P] : ¬ bI (decide P) = 0 ↔ P := by
  by_cases h : P <;> simp [h, bI]
theorem bq_f {P : Prop} [Decidable P] : bI (decide P) = 0 ↔ ¬ P := by
  by_cases h : P <;> simp [h, bI]
set_option maxHeartbeats 4000000 in
set_option maxRecDepth 100000 in
theorem M_thrown_m {l : Launch} {G : ax_G} (S : x_S) (M : x_M) (tl : List va_E)  :
    AM l VV G M_thrown_y M_thrown_c 1 (some .int) 0 0 0 [.ref 153] (x_hM S M tl) (fun v h' => v = some (.int (M.1 0)) ∧ h' = x_hM S M tl) := by
  refine AM.of (pl := pl_M) (by decide) v_good fl_M_ok kl_M_ok nofun (Nat.le_of_ble_eq_true rfl) ?_
  intro p e s m args below meth c X
  refine AW.run X M_thrown_d 0 2 rfl ?_
  exact AW.iret X (M_thrown_d.d 2 rfl) (Nat.le_of_ble_eq_true rfl) (Nat.le_of_ble_eq_true rfl) ⟨rfl, rfl⟩

set_option maxHeartbeats 4000000 in
set_option maxRecDepth 100000 in
theorem M_refused_m {l : Launch} {G : ax_G} (S : x_S) (M : x_M) (tl : List va_E) (w : Int32) :
    AM l VV G M_refused_y M_refused_c 2 (some .boolean) 0 0 0 [.ref 153, .int w] (x_hM S M tl) (fun v h' => v = some (.int (bI (decide (0 < w)))) ∧ h' = x_hM S (y_i M 0 w) tl) := by
  refine AM.of (pl := pl_M) (by decide) v_good fl_M_ok kl_M_ok nofun (Nat.le_of_ble_eq_true rfl) ?_
  intro p e s m args below meth c X
  refine AW.run X M_refused_d 0 2 rfl ?_
  refine AW.mp0 X (M_refused_d.d 2 rfl) ?_
  refine AW.run X M_refused_d 3 1 rfl ?_
  refine AW.if_le X (M_refused_d.d 4 rfl) (fun q4 => ?_) (fun q4 => ?_)
  · refine AW.run X M_refused_d 7 1 rfl ?_
    exact AW.zret X n_0 (M_refused_d.d 8 rfl) (Nat.le_of_ble_eq_true rfl) (Nat.le_of_ble_eq_true rfl) ⟨vb_f (k2_nlt q4), rfl⟩
  · refine AW.run X M_refused_d 5 1 rfl ?_
    refine AW.goto X (M_refused_d.d 6 rfl) ?_
    exact AW.zret X n_1 (M_refused_d.d 8 rfl) (Nat.le_of_ble_eq_true rfl) (Nat.le_of_ble_eq_true rfl) ⟨vb_t (k2_lt q4), rfl⟩

set_option maxHeartbeats 4000000 in
set_option maxRecDepth 100000 in
theorem M_isIn_m {l : Launch} {G : ax_G} {h : List va_E} (a lo hi : Int) (ha : zL a) (hlo : zL lo) (hhi : zL hi) :
    AM l VV G M_isIn_y M_isIn_c 6 (some .boolean) 0 0 0 [.long (lZ a), .long (lZ lo), .long (lZ hi)] (h) (fun v h' => v = some (.int (bI (decide (lo ≤ a ∧ a ≤ hi)))) ∧ h' = h) := by
  refine AM.of (pl := pl_M) (by decide) v_good fl_M_ok kl_M_ok nofun (Nat.le_of_ble_eq_true rfl) ?_
  intro p e s m args below meth c X
  refine AW.run X M_isIn_d 0 3 rfl ?_
  refine AW.if_lt X (M_isIn_d.d 3 rfl) (fun q3 => ?_) (fun q3 => ?_)
  · refine AW.run X M_isIn_d 10 1 rfl ?_
    exact AW.zret X n_0 (M_isIn_d.d 11 rfl) (Nat.le_of_ble_eq_true rfl) (Nat.le_of_ble_eq_true rfl) ⟨vb_f (fun z => by have := (lc_lt ha hlo).mp q3; omega), rfl⟩
  · refine AW.run X M_isIn_d 4 3 rfl ?_
    refine AW.if_gt X (M_isIn_d.d 7 rfl) (fun q7 => ?_) (fun q7 => ?_)
    · refine AW.run X M_isIn_d 10 1 rfl ?_
      exact AW.zret X n_0 (M_isIn_d.d 11 rfl) (Nat.le_of_ble_eq_true rfl) (Nat.le_of_ble_eq_true rfl) ⟨vb_f (fun z => by have := (lc_gt ha hhi).mp q7; omega), rfl⟩
    · refine AW.run X M_isIn_d 8 1 rfl ?_
      refine AW.goto X (M_isIn_d.d 9 rfl) ?_
      exact AW.zret X n_1 (M_isIn_d.d 11 rfl) (Nat.le_of_ble_eq_true rfl) (Nat.le_of_ble_eq_true rfl) ⟨vb_t (by have := mt (lc_lt ha hlo).mpr q3; have := mt (lc_gt ha hhi).mpr q7; omega), rfl⟩

set_option maxHeartbeats 4000000 in
set_option maxRecDepth 100000 in
theorem M_drop_m {l : Launch} {G : ax_G} (S : x_S) (M : x_M) (tl : List va_E)  :
    AM l VV G M_drop_y M_drop_c 2 (some .int) 0 0 0 [.ref 153] (x_hM S M tl) (fun v h' => v = some (.int (M.1 2)) ∧ h' = x_hM S (y_i (y_i M 0 0) 2 0) tl) := by
  refine AM.of (pl := pl_M) (by decide) v_good fl_M_ok kl_M_ok nofun (Nat.le_of_ble_eq_true rfl) ?_
  intro p e s m args below meth c X
  refine AW.run X M_drop_d 0 2 rfl ?_
  refine AW.mp0 X (M_drop_d.d 2 rfl) ?_
  refine AW.run X M_drop_d 3 5 rfl ?_
  refine AW.mp2 X (M_drop_d.d 8 rfl) ?_
  refine AW.run X M_drop_d 9 1 rfl ?_
  exact AW.iret X (M_drop_d.d 10 rfl) (Nat.le_of_ble_eq_true rfl) (Nat.le_of_ble_eq_true rfl) ⟨rfl, rfl⟩

set_option maxHeartbeats 4000000 in
set_option maxRecDepth 100000 in
theorem M_clear_m {l : Launch} {G : ax_G} (S : x_S) (M : x_M) (tl : List va_E)  :
    AM l VV G M_clear_y M_clear_c 2 (some .int) 0 0 0 [.ref 153] (x_hM S M tl) (fun v h' => v = some (.int (M.1 5)) ∧ h' = x_hM S (y_i (y_i M 0 0) 5 0) tl) := by
  refine AM.of (pl := pl_M) (by decide) v_good fl_M_ok kl_M_ok nofun (Nat.le_of_ble_eq_true rfl) ?_
  intro p e s m args below meth c X
  refine AW.run X M_clear_d 0 2 rfl ?_
  refine AW.mp0 X (M_clear_d.d 2 rfl) ?_
  refine AW.run X M_clear_d 3 5 rfl ?_
  refine AW.mp5 X (M_clear_d.d 8 rfl) ?_
  refine AW.run X M_clear_d 9 1 rfl ?_
  exact AW.iret X (M_clear_d.d 10 rfl) (Nat.le_of_ble_eq_true rfl) (Nat.le_of_ble_eq_true rfl) ⟨rfl, rfl⟩

set_option maxHeartbeats 4000000 in
set_option maxRecDepth 100000 in
theorem M_fault_m {l : Launch} {G : ax_G} (S : x_S) (M : x_M) (tl : List va_E) (w : Int32) :
    AM l VV G M_fault_y M_fault_c 2 (some .int) 0 0 0 [.ref 153, .int w] (x_hM S M tl) (fun v h' => v = some (.int (if w = 0 then M.1 3 else if w = 1 then M.1 4 else -1)) ∧ h' = x_hM S (y_i M 0 0) tl) := by
  refine AM.of (pl := pl_M) (by decide) v_good fl_M_ok kl_M_ok nofun (Nat.le_of_ble_eq_true rfl) ?_
  intro p e s m args below meth c X
  refine AW.run X M_fault_d 0 2 rfl ?_
  refine AW.mp0 X (M_fault_d.d 2 rfl) ?_
  refine AW.run X M_fault_d 3 1 rfl ?_
  refine AW.if_ne X (M_fault_d.d 4 rfl) (fun q4 => ?_) (fun q4 => ?_)
  · refine AW.run X M_fault_d 8 2 rfl ?_
    refine AW.icmp_ne X (M_fault_d.d 10 rfl) (fun q10 => ?_) (fun q10 => ?_)
    · refine AW.run X M_fault_d 14 1 rfl ?_
      exact AW.iret X (M_fault_d.d 15 rfl) (Nat.le_of_ble_eq_true rfl) (Nat.le_of_ble_eq_true rfl) ⟨by rw [if_neg q4, if_neg (show ¬ w = 1 from q10)]; rfl, rfl⟩
    · refine AW.run X M_fault_d 11 2 rfl ?_
      refine AW.goto X (M_fault_d.d 13 rfl) ?_
      exact AW.iret X (M_fault_d.d 15 rfl) (Nat.le_of_ble_eq_true rfl) (Nat.le_of_ble_eq_true rfl) ⟨by rw [if_neg q4, if_pos (show w = 1 from q10)]; rfl, rfl⟩
  · refine AW.run X M_fault_d 5 2 rfl ?_
    refine AW.goto X (M_fault_d.d 7 rfl) ?_
    exact AW.iret X (M_fault_d.d 15 rfl) (Nat.le_of_ble_eq_true rfl) (Nat.le_of_ble_eq_true rfl) ⟨by rw [if_pos q4]; rfl, rfl⟩

set_option maxHeartbeats 4000000 in
set_option maxRecDepth 100000 in
theorem M_tellFault_m {l : Launch} {G : ax_G} (S : x_S) (M : x_M) (tl : List va_E) (a b : Int32) :
    AM l VV G M_tellFault_y M_tellFault_c 3 none 0 0 0 [.ref 153, .int a, .int b] (x_hM S M tl) (fun v h' => v = none ∧ h' = x_hM S (y_i (y_i M 3 a) 4 b) tl) := by
  refine AM.of (pl := pl_M) (by decide) v_good fl_M_ok kl_M_ok nofun (Nat.le_of_ble_eq_true rfl) ?_
  intro p e s m args below meth c X
  refine AW.run X M_tellFault_d 0 2 rfl ?_
  refine AW.mp3 X (M_tellFault_d.d 2 rfl) ?_
  refine AW.run X M_tellFault_d 3 2 rfl ?_
  refine AW.mp4 X (M_tellFault_d.d 5 rfl) ?_
  exact AW.vret X (M_tellFault_d.d 6 rfl) (Nat.le_of_ble_eq_true rfl) (Nat.le_of_ble_eq_true rfl) ⟨rfl, rfl⟩

set_option maxHeartbeats 4000000 in
set_option maxRecDepth 100000 in
theorem M_isBrace_m {l : Launch} {G : ax_G} {h : List va_E} (a : Int32) :
    AM l VV G M_isBrace_y M_isBrace_c 1 (some .boolean) 0 0 0 [.int a] (h) (fun v h' => v = some (.int (bI (decide (a = 123 ∨ a = 125)))) ∧ h' = h) := by
  refine AM.of (pl := pl_M) (by decide) v_good fl_M_ok kl_M_ok nofun (Nat.le_of_ble_eq_true rfl) ?_
  intro p e s m args below meth c X
  refine AW.run X M_isBrace_d 0 2 rfl ?_
  refine AW.icmp_eq X (M_isBrace_d.d 2 rfl) (fun q2 => ?_) (fun q2 => ?_)
  · refine AW.run X M_isBrace_d 6 1 rfl ?_
    refine AW.goto X (M_isBrace_d.d 7 rfl) ?_
    exact AW.zret X n_1 (M_isBrace_d.d 9 rfl) (Nat.le_of_ble_eq_true rfl) (Nat.le_of_ble_eq_true rfl) ⟨vb_t (Or.inl q2), rfl⟩
  · refine AW.run X M_isBrace_d 3 2 rfl ?_
    refine AW.icmp_ne X (M_isBrace_d.d 5 rfl) (fun q5 => ?_) (fun q5 => ?_)
    · refine AW.run X M_isBrace_d 8 1 rfl ?_
      exact AW.zret X n_0 (M_isBrace_d.d 9 rfl) (Nat.le_of_ble_eq_true rfl) (Nat.le_of_ble_eq_true rfl) ⟨vb_f (fun z => Or.elim z q2 q5), rfl⟩
    · refine AW.run X M_isBrace_d 6 1 rfl ?_
      refine AW.goto X (M_isBrace_d.d 7 rfl) ?_
      exact AW.zret X n_1 (M_isBrace_d.d 9 rfl) (Nat.le_of_ble_eq_true rfl) (Nat.le_of_ble_eq_true rfl) ⟨vb_t (Or.inr q5), rfl⟩

set_option maxHeartbeats 4000000 in
set_option maxRecDepth 100000 in
theorem M_isDigit_m {l : Launch} {G : ax_G} {h : List va_E} (a : Int32) :
    AM l VV G M_isDigit_y M_isDigit_c 1 (some .boolean) 0 0 0 [.int a] (h) (fun v h' => v = some (.int (bI (decide (48 ≤ a ∧ a ≤ 57)))) ∧ h' = h) := by
  refine AM.of (pl := pl_M) (by decide) v_good fl_M_ok kl_M_ok nofun (Nat.le_of_ble_eq_true rfl) ?_
  intro p e s m args below meth c X
  refine AW.run X M_isDigit_d 0 2 rfl ?_
  refine AW.icmp_lt X (M_isDigit_d.d 2 rfl) (fun q2 => ?_) (fun q2 => ?_)
  · refine AW.run X M_isDigit_d 8 1 rfl ?_
    exact AW.zret X n_0 (M_isDigit_d.d 9 rfl) (Nat.le_of_ble_eq_true rfl) (Nat.le_of_ble_eq_true rfl) ⟨vb_f (fun z => k2_nle q2 z.1), rfl⟩
  · refine AW.run X M_isDigit_d 3 2 rfl ?_
    refine AW.icmp_gt X (M_isDigit_d.d 5 rfl) (fun q5 => ?_) (fun q5 => ?_)
    · refine AW.run X M_isDigit_d 8 1 rfl ?_
      exact AW.zret X n_0 (M_isDigit_d.d 9 rfl) (Nat.le_of_ble_eq_true rfl) (Nat.le_of_ble_eq_true rfl) ⟨vb_f (fun z => k2_nle q5 z.2), rfl⟩
    · refine AW.run X M_isDigit_d 6 1 rfl ?_
      refine AW.goto X (M_isDigit_d.d 7 rfl) ?_
      exact AW.zret X n_1 (M_isDigit_d.d 9 rfl) (Nat.le_of_ble_eq_true rfl) (Nat.le_of_ble_eq_true rfl) ⟨vb_t ⟨k2_le q2, k2_le q5⟩, rfl⟩

set_option maxHeartbeats 4000000 in
set_option maxRecDepth 100000 in
theorem M_cut_m {l : Launch} {G : ax_G} (S : x_S) (M : x_M) (tl : List va_E) (w : Int32) (n : Nat) (hn : n ≤ 8192) (hsz : M.1 1 = nI n) :
    AM l VV G M_cut_y M_cut_c 3 (some .int) 1 0 0 [.ref 153, .int w] (x_hM S M tl) (fun v h' => if w < 0 then v = some (.int 0) ∧ h' = x_hM S (y_i M 0 1) tl else ∃ k, w = nI k ∧ v = some (.int (nI (n - k))) ∧ h' = x_hM S (y_i (y_i M 0 0) 1 (nI (n - (n - k)))) tl) := by
  refine AM.of (pl := pl_M) (by decide) v_good fl_M_ok kl_M_ok nofun (Nat.le_of_ble_eq_true rfl) ?_
  intro p e s m args below meth c X
  refine AW.run X M_cut_d 0 2 rfl ?_
  have J10 : ∀ (z : Int32), z = (if w < 0 then 1 else 0) → AW p l e (ax_R 1 0 0) s m args below meth c VV G 3 (x_hM S M tl) 0 0 (MQ below (ax_Q VV G (fun v h' => if w < 0 then v = some (.int 0) ∧ h' = x_hM S (y_i M 0 1) tl else ∃ k, w = nI k ∧ v = some (.int (nI (n - k))) ∧ h' = x_hM S (y_i (y_i M 0 0) 1 (nI (n - (n - k)))) tl)) args s 0 0 (fun q => G.bs ≤ q)) 10 [(0, .ref 153), (1, .int w)] [.int z, .ref 153] := by
    intro z hz
    refine AW.callV (As := [.int z]) X (M_refused_m S M tl z) cb_M_84 rfl rfl M_refused_im M_refused_se rfl ⟨Nat.le_of_ble_eq_true rfl, Nat.le_of_ble_eq_true rfl⟩ (Nat.le_of_ble_eq_true rfl) ⟨Nat.le_of_ble_eq_true rfl, Nat.le_of_ble_eq_true rfl⟩ (M_cut_d.d 6 rfl) (fun v h' q => ?_)
    obtain ⟨rfl, rfl⟩ := q
    refine AW.if_eq X (M_cut_d.d 7 rfl) (fun q7 => ?_) (fun q7 => ?_)
    · have hw : ¬ w < 0 := fun q => by rw [if_pos q] at hz; subst hz; exact absurd q7 (by decide)
      rw [if_neg hw] at hz
      subst hz
      obtain ⟨k, hk, rfl⟩ := nI_of hw
      refine AW.run X M_cut_d 10 3 rfl ?_
      refine AW.icmp_le X (M_cut_d.d 13 rfl) (fun q13 => ?_) (fun q13 => ?_)
      · refine AW.run X M_cut_d 19 7 rfl ?_
        refine AW.mp1 X (M_cut_d.d 26 rfl) ?_
        refine AW.run X M_cut_d 27 1 rfl ?_
        exact AW.iret X (M_cut_d.d 28 rfl) (Nat.le_of_ble_eq_true rfl) (Nat.le_of_ble_eq_true rfl) (by
          rw [if_neg hw]
          have hk2 : n ≤ k := (nI_leI (by omega) hk).mp (by rw [← hsz]; exact q13)
          refine ⟨k, rfl, by rw [show n - k = 0 by omega]; rfl, ?_⟩
          rw [show n - (n - k) = n by omega, ← hsz]
          exact congrArg (fun z => x_hM S (y_i (y_i M 0 0) 1 z) tl) (Int32.sub_zero _))
      · refine AW.run X M_cut_d 14 4 rfl ?_
        refine AW.goto X (M_cut_d.d 18 rfl) ?_
        refine AW.run X M_cut_d 20 6 rfl ?_
        refine AW.mp1 X (M_cut_d.d 26 rfl) ?_
        refine AW.run X M_cut_d 27 1 rfl ?_
        exact AW.iret X (M_cut_d.d 28 rfl) (Nat.le_of_ble_eq_true rfl) (Nat.le_of_ble_eq_true rfl) (by
          rw [if_neg hw]
          have hk2 : ¬ n ≤ k := fun z => q13 (by show M.1 1 ≤ nI k; rw [hsz]; exact (nI_leI (by omega) hk).mpr z)
          have e1 : M.1 1 - nI k = nI (n - k) := by rw [hsz, pk_sub (by omega)]
          refine ⟨k, rfl, congrArg (fun z => some (Value.int z)) e1, ?_⟩
          refine congrArg (fun z => x_hM S (y_i (y_i M 0 0) 1 z) tl) ?_
          show M.1 1 - (M.1 1 - nI k) = _
          rw [e1, hsz, pk_sub (by omega)])
    · have hw : w < 0 := Classical.byContradiction fun q => by rw [if_neg q] at hz; subst hz; exact q7 (by decide)
      rw [if_pos hw] at hz
      subst hz
      refine AW.run X M_cut_d 8 1 rfl ?_
      exact AW.iret X (M_cut_d.d 9 rfl) (Nat.le_of_ble_eq_true rfl) (Nat.le_of_ble_eq_true rfl) (by rw [if_pos hw]; exact ⟨rfl, rfl⟩)
  refine AW.if_ge X (M_cut_d.d 2 rfl) (fun q2 => ?_) (fun q2 => ?_)
  · refine AW.run X M_cut_d 5 1 rfl ?_
    exact J10 _ (if_neg (k2_nlt q2)).symm
  · refine AW.run X M_cut_d 3 1 rfl ?_
    refine AW.goto X (M_cut_d.d 4 rfl) ?_
    exact J10 _ (if_pos (k2_lt q2)).symm

/-- the k-th of the five ints that are fed, and its j-th byte -/
def f_w (a b c d e : Int32) (k : Nat) : Int32 := if k < 4 then a else if k < 8 then b else if k < 12 then c else if k < 16 then d else e
def f_b (w : Int32) (j : Nat) : Int32 := (w >>> (nI (24 - 8 * j) &&& 31)).toInt8.toInt32
theorem f_nar (x : Int32) : vp_nar .byte x.toInt8.toInt32 = x.toInt8.toInt32 := pk_vb x
set_option maxHeartbeats 4000000 in
set_option maxRecDepth 100000 in
theorem M_feed_m {l : Launch} {G : ax_G} (S : x_S) (M : x_M) (tl : List va_E) (a b c0 d e0 : Int32) (n : Nat) (hn : M.1 1 = nI n) (hle : n ≤ 8192) :
    AM l VV G M_feed_y M_feed_c 8 (some .int) 0 0 0 [.ref 153, .int a, .int b, .int c0, .int d, .int e0] (x_hM S M tl) (fun v h' => if 8192 < n + 20 then v = some (.int (-1)) ∧ h' = x_hM S (y_i M 0 0) tl else ∃ f, v = some (.int (nI (n + 20))) ∧ h' = x_hM S (y_A (y_i (y_i M 0 0) 1 (nI (n + 20))) 0 f) tl ∧ (∀ j, j < n → f j = M.2.1 0 j) ∧ ∀ i, i < 20 → f (n + i) = f_b (f_w a b c0 d e0 i) (i % 4)) := by
  refine AM.of (pl := pl_M) (by decide) v_good fl_M_ok kl_M_ok nofun (Nat.le_of_ble_eq_true rfl) ?_
  intro p e s m args below meth c X
  refine AW.run X M_feed_d 0 2 rfl ?_
  refine AW.mp0 X (M_feed_d.d 2 rfl) ?_
  refine AW.run X M_feed_d 3 5 rfl ?_
  refine AW.icmp_le X (M_feed_d.d 8 rfl) (fun q8 => ?_) (fun q8 => ?_)
  · have hlt : n + 20 ≤ 8192 := (nI_leI (by omega) (by decide)).mp (by rw [← nI_add, ← hn]; exact q8)
    refine AW.run X M_feed_d 11 2 rfl ?_
    have L23 : ∀ (t k : Nat) (f : Nat → Int32), k ≤ 20 → 20 - k < t → (∀ j, j < n → f j = M.2.1 0 j) → (∀ i, i < k → f (n + i) = f_b (f_w a b c0 d e0 i) (i % 4)) → AW p l e (ax_R 0 0 0) s m args below meth c VV G 8 (x_hM S (y_A (y_i (y_i M 0 0) 1 (nI (n + k))) 0 f) tl) 0 0 (MQ below (ax_Q VV G (fun v h' => if 8192 < n + 20 then v = some (.int (-1)) ∧ h' = x_hM S (y_i M 0 0) tl else ∃ f, v = some (.int (nI (n + 20))) ∧ h' = x_hM S (y_A (y_i (y_i M 0 0) 1 (nI (n + 20))) 0 f) tl ∧ (∀ j, j < n → f j = M.2.1 0 j) ∧ ∀ i, i < 20 → f (n + i) = f_b (f_w a b c0 d e0 i) (i % 4))) args s 0 0 (fun q => G.bs ≤ q)) 23 [(6, .int (nI k)), (0, .ref 153), (1, .int a), (2, .int b), (3, .int c0), (4, .int d), (5, .int e0)] [] := by
      intro t
      induction t with
      | zero => intro k f h1 h2; exact absurd h2 (by omega)
      | succ t ih =>
        intro k f h1 h2 h3 h4
        refine AW.run X M_feed_d 13 2 rfl ?_
        refine AW.icmp_ge X (M_feed_d.d 15 rfl) (fun q15 => ?_) (fun q15 => ?_)
        · refine AW.run X M_feed_d 61 2 rfl ?_
          exact AW.iret X (M_feed_d.d 63 rfl) (Nat.le_of_ble_eq_true rfl) (Nat.le_of_ble_eq_true rfl) (by
            have hk : ¬ k < 20 := fun z => k2_nlt q15 ((nI_ltI (by omega) (by decide)).mpr z)
            have hk : k = 20 := by omega
            subst hk
            rw [if_neg (by omega)]
            exact ⟨f, rfl, rfl, h3, h4⟩)
        · refine AW.run X M_feed_d 16 2 rfl ?_
          have J76 : ∀ (w : Int32), w = f_w a b c0 d e0 k → AW p l e (ax_R 0 0 0) s m args below meth c VV G 8 (x_hM S (y_A (y_i (y_i M 0 0) 1 (nI (n + k))) 0 f) tl) 0 0 (MQ below (ax_Q VV G (fun v h' => if 8192 < n + 20 then v = some (.int (-1)) ∧ h' = x_hM S (y_i M 0 0) tl else ∃ f, v = some (.int (nI (n + 20))) ∧ h' = x_hM S (y_A (y_i (y_i M 0 0) 1 (nI (n + 20))) 0 f) tl ∧ (∀ j, j < n → f j = M.2.1 0 j) ∧ ∀ i, i < 20 → f (n + i) = f_b (f_w a b c0 d e0 i) (i % 4))) args s 0 0 (fun q => G.bs ≤ q)) 76 [(6, .int (nI k)), (0, .ref 153), (1, .int a), (2, .int b), (3, .int c0), (4, .int d), (5, .int e0)] [.int w] := by
            intro w hw
            refine AW.run X M_feed_d 37 1 rfl ?_
            refine AW.run X M_feed_d 38 9 rfl ?_
            refine AW.irem X (M_feed_d.d 47 rfl) (by decide) ?_
            refine AW.run X M_feed_d 48 4 rfl ?_
            refine AW.ms0 (j := n + k) X rfl (show n + k < 8192 by have := (nI_ltI (a := k) (b := 20) (by omega) (by decide)).mp (k2_lt q15); omega) (M_feed_d.d 52 rfl) ?_
            refine AW.run X M_feed_d 53 5 rfl ?_
            refine AW.mp1 X (M_feed_d.d 58 rfl) ?_
            refine AW.run X M_feed_d 59 1 rfl ?_
            refine AW.goto X (M_feed_d.d 60 rfl) ?_
            refine AW.pk [0, 2, 3, 4, 5, 6, 7] rfl ?_
            have hk : k < 20 := (nI_ltI (by omega) (by decide)).mp (k2_lt q15)
            have e5 : w >>> (((Int8.ofInt 24).toInt32 - (Int8.ofInt 8).toInt32 * (nI k - nI k / Int32.ofInt 4 * Int32.ofInt 4)) &&& 31) = w >>> (nI (24 - 8 * (k % 4)) &&& 31) := by
              rw [show nI k - nI k / Int32.ofInt 4 * Int32.ofInt 4 = nI (k % 4) from pk_rem (by omega) (by decide) (by decide), show (Int8.ofInt 8).toInt32 = nI 8 from by decide, show (Int8.ofInt 24).toInt32 = nI 24 from by decide, pk_mul, pk_sub (by omega)]
            rw [e5, nI_o1]
            exact AW.eq (h' := x_hM S (y_A (y_i (y_i M 0 0) 1 (nI (n + (k + 1)))) 0 (upd f (n + k) (f_b w (k % 4)))) tl) (by rw [y_aA, f_nar]; exact congrArg (fun z => x_hM S z tl) (by rw [← Nat.add_assoc, ← nI_o1 (n + k)]; exact congrArg (fun z => ((z, va_up M.2.1 0 (upd f (n + k) (f_b w (k % 4))), M.2.2) : x_M)) (upd_upd _ _ _ _))) (ih (k + 1) _ (by omega) (by omega) (fun j hj => by rw [pk_un (by omega)]; exact h3 j hj) (fun i hi => by
              by_cases e6 : i = k
              · subst e6; rw [pk_us, hw]
              · rw [pk_un (by omega)]; exact h4 i (by omega)))
          refine AW.icmp_ge X (M_feed_d.d 18 rfl) (fun q18 => ?_) (fun q18 => ?_)
          · refine AW.run X M_feed_d 21 2 rfl ?_
            refine AW.icmp_ge X (M_feed_d.d 23 rfl) (fun q23 => ?_) (fun q23 => ?_)
            · refine AW.run X M_feed_d 26 2 rfl ?_
              refine AW.icmp_ge X (M_feed_d.d 28 rfl) (fun q28 => ?_) (fun q28 => ?_)
              · refine AW.run X M_feed_d 31 2 rfl ?_
                refine AW.icmp_ge X (M_feed_d.d 33 rfl) (fun q33 => ?_) (fun q33 => ?_)
                · refine AW.run X M_feed_d 36 1 rfl ?_
                  exact J76 _ (by rw [f_w, if_neg (fun z => nI_nlt (Nat.le_refl _) (by omega) (Int32.lt_of_lt_of_le ((nI_ltI (a := k) (b := 4) (by omega) (by decide)).mpr z) q18)), if_neg (fun z => nI_nlt (Nat.le_refl _) (by omega) (Int32.lt_of_lt_of_le ((nI_ltI (a := k) (b := 8) (by omega) (by decide)).mpr z) q23)), if_neg (fun z => nI_nlt (Nat.le_refl _) (by omega) (Int32.lt_of_lt_of_le ((nI_ltI (a := k) (b := 12) (by omega) (by decide)).mpr z) q28)), if_neg (fun z => nI_nlt (Nat.le_refl _) (by omega) (Int32.lt_of_lt_of_le ((nI_ltI (a := k) (b := 16) (by omega) (by decide)).mpr z) q33))])
                · refine AW.run X M_feed_d 34 1 rfl ?_
                  refine AW.goto X (M_feed_d.d 35 rfl) ?_
                  exact J76 _ (by rw [f_w, if_neg (fun z => nI_nlt (Nat.le_refl _) (by omega) (Int32.lt_of_lt_of_le ((nI_ltI (a := k) (b := 4) (by omega) (by decide)).mpr z) q18)), if_neg (fun z => nI_nlt (Nat.le_refl _) (by omega) (Int32.lt_of_lt_of_le ((nI_ltI (a := k) (b := 8) (by omega) (by decide)).mpr z) q23)), if_neg (fun z => nI_nlt (Nat.le_refl _) (by omega) (Int32.lt_of_lt_of_le ((nI_ltI (a := k) (b := 12) (by omega) (by decide)).mpr z) q28)), if_pos ((nI_ltI (a := k) (b := 16) (by omega) (by decide)).mp (k2_lt q33))])
              · refine AW.run X M_feed_d 29 1 rfl ?_
                refine AW.goto X (M_feed_d.d 30 rfl) ?_
                exact J76 _ (by rw [f_w, if_neg (fun z => nI_nlt (Nat.le_refl _) (by omega) (Int32.lt_of_lt_of_le ((nI_ltI (a := k) (b := 4) (by omega) (by decide)).mpr z) q18)), if_neg (fun z => nI_nlt (Nat.le_refl _) (by omega) (Int32.lt_of_lt_of_le ((nI_ltI (a := k) (b := 8) (by omega) (by decide)).mpr z) q23)), if_pos ((nI_ltI (a := k) (b := 12) (by omega) (by decide)).mp (k2_lt q28))])
            · refine AW.run X M_feed_d 24 1 rfl ?_
              refine AW.goto X (M_feed_d.d 25 rfl) ?_
              exact J76 _ (by rw [f_w, if_neg (fun z => nI_nlt (Nat.le_refl _) (by omega) (Int32.lt_of_lt_of_le ((nI_ltI (a := k) (b := 4) (by omega) (by decide)).mpr z) q18)), if_pos ((nI_ltI (a := k) (b := 8) (by omega) (by decide)).mp (k2_lt q23))])
          · refine AW.run X M_feed_d 19 1 rfl ?_
            refine AW.goto X (M_feed_d.d 20 rfl) ?_
            exact J76 _ (by rw [f_w, if_pos ((nI_ltI (a := k) (b := 4) (by omega) (by decide)).mp (k2_lt q18))])
    exact AW.eq (by rw [Nat.add_zero, ← hn, show y_i (y_i M 0 0) 1 (M.1 1) = y_i M 0 0 from by unfold y_i; congr 1; funext j; unfold upd; by_cases q : j = 1 <;> simp [q]]; exact congrArg (fun z => x_hM S z tl) (y_A0 (y_i M 0 0) 0).symm) (L23 21 0 (M.2.1 0) (by decide) (by decide) (fun _ _ => rfl) (fun i hi => absurd hi (by omega)))
  · refine AW.run X M_feed_d 9 1 rfl ?_
    exact AW.iret X (M_feed_d.d 10 rfl) (Nat.le_of_ble_eq_true rfl) (Nat.le_of_ble_eq_true rfl) (by rw [if_pos (by have := mt (nI_leI (a := n + 20) (b := 8192) (by omega) (by decide)).mpr (fun z => q8 (by show M.1 1 + nI 20 ≤ nI 8192; rw [hn, nI_add]; exact z)); omega)]; exact ⟨rfl, rfl⟩)

