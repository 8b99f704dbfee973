/-! the reference: its small methods -/
theorem vb_t {P : Prop} [Decidable P] (h : P) : some (Value.int (Int32.ofInt 1)) = some (.int (bI (decide P))) := by rw [decide_eq_true h]; rfl
theorem vb_f {P : Prop} [Decidable P] (h : ¬ P) : some (Value.int (Int32.ofInt 0)) = some (.int (bI (decide P))) := by rw [decide_eq_false h]; rfl
theorem bq_t {P : Prop} [Decidable P] : ¬ bI (decide P) = 0 ↔ P := by
  by_cases h : P <;> simp [h, bI]
theorem bq_f {P : Prop} [Decidable P] : bI (decide P) = 0 ↔ ¬ P := by
  by_cases h : P <;> simp [h, bI]
set_option maxHeartbeats 4000000 in
set_option maxRecDepth 100000 in
theorem M_thrown_m {l : Launch} {G : ax_G} (S : x_S) (M : x_M) (tl : List va_E)  :
    AM l VV G M_thrown_y M_thrown_c 1 (some .int) 0 0 0 [.ref 111] (x_hM S M tl) (fun v h' => v = some (.int (M.1 0)) ∧ h' = x_hM S M tl) := by
  refine AM.of (pl := pl_M) (by decide) v_good fl_M_ok kl_M_ok nofun (Nat.le_of_ble_eq_true rfl) ?_
  intro p e s m args below meth c X
  refine AW.run X M_thrown_d 0 2 rfl ?_
  exact AW.iret X (M_thrown_d.d 2 rfl) (Nat.le_of_ble_eq_true rfl) (Nat.le_of_ble_eq_true rfl) ⟨rfl, rfl⟩

set_option maxHeartbeats 4000000 in
set_option maxRecDepth 100000 in
theorem M_refused_m {l : Launch} {G : ax_G} (S : x_S) (M : x_M) (tl : List va_E) (w : Int32) :
    AM l VV G M_refused_y M_refused_c 2 (some .boolean) 0 0 0 [.ref 111, .int w] (x_hM S M tl) (fun v h' => v = some (.int (bI (decide (0 < w)))) ∧ h' = x_hM S (y_i M 0 w) tl) := by
  refine AM.of (pl := pl_M) (by decide) v_good fl_M_ok kl_M_ok nofun (Nat.le_of_ble_eq_true rfl) ?_
  intro p e s m args below meth c X
  refine AW.run X M_refused_d 0 2 rfl ?_
  refine AW.mp0 X (M_refused_d.d 2 rfl) ?_
  refine AW.run X M_refused_d 3 1 rfl ?_
  refine AW.if_le X (M_refused_d.d 4 rfl) (fun q4 => ?_) (fun q4 => ?_)
  · refine AW.run X M_refused_d 7 1 rfl ?_
    exact AW.zret X n_0 (M_refused_d.d 8 rfl) (Nat.le_of_ble_eq_true rfl) (Nat.le_of_ble_eq_true rfl) ⟨vb_f (k2_nlt q4), rfl⟩
  · refine AW.run X M_refused_d 5 1 rfl ?_
    refine AW.goto X (M_refused_d.d 6 rfl) ?_
    exact AW.zret X n_1 (M_refused_d.d 8 rfl) (Nat.le_of_ble_eq_true rfl) (Nat.le_of_ble_eq_true rfl) ⟨vb_t (k2_lt q4), rfl⟩

set_option maxHeartbeats 4000000 in
set_option maxRecDepth 100000 in
theorem M_isIn_m {l : Launch} {G : ax_G} {h : List va_E} (a lo hi : Int) (ha : zL a) (hlo : zL lo) (hhi : zL hi) :
    AM l VV G M_isIn_y M_isIn_c 6 (some .boolean) 0 0 0 [.long (lZ a), .long (lZ lo), .long (lZ hi)] (h) (fun v h' => v = some (.int (bI (decide (lo ≤ a ∧ a ≤ hi)))) ∧ h' = h) := by
  refine AM.of (pl := pl_M) (by decide) v_good fl_M_ok kl_M_ok nofun (Nat.le_of_ble_eq_true rfl) ?_
  intro p e s m args below meth c X
  refine AW.run X M_isIn_d 0 3 rfl ?_
  refine AW.if_lt X (M_isIn_d.d 3 rfl) (fun q3 => ?_) (fun q3 => ?_)
  · refine AW.run X M_isIn_d 10 1 rfl ?_
    exact AW.zret X n_0 (M_isIn_d.d 11 rfl) (Nat.le_of_ble_eq_true rfl) (Nat.le_of_ble_eq_true rfl) ⟨vb_f (fun z => by have := (lc_lt ha hlo).mp q3; omega), rfl⟩
  · refine AW.run X M_isIn_d 4 3 rfl ?_
    refine AW.if_gt X (M_isIn_d.d 7 rfl) (fun q7 => ?_) (fun q7 => ?_)
    · refine AW.run X M_isIn_d 10 1 rfl ?_
      exact AW.zret X n_0 (M_isIn_d.d 11 rfl) (Nat.le_of_ble_eq_true rfl) (Nat.le_of_ble_eq_true rfl) ⟨vb_f (fun z => by have := (lc_gt ha hhi).mp q7; omega), rfl⟩
    · refine AW.run X M_isIn_d 8 1 rfl ?_
      refine AW.goto X (M_isIn_d.d 9 rfl) ?_
      exact AW.zret X n_1 (M_isIn_d.d 11 rfl) (Nat.le_of_ble_eq_true rfl) (Nat.le_of_ble_eq_true rfl) ⟨vb_t (by have := mt (lc_lt ha hlo).mpr q3; have := mt (lc_gt ha hhi).mpr q7; omega), rfl⟩

set_option maxHeartbeats 4000000 in
set_option maxRecDepth 100000 in
theorem M_drop_m {l : Launch} {G : ax_G} (S : x_S) (M : x_M) (tl : List va_E)  :
    AM l VV G M_drop_y M_drop_c 2 (some .int) 0 0 0 [.ref 111] (x_hM S M tl) (fun v h' => v = some (.int (M.1 2)) ∧ h' = x_hM S (y_i (y_i M 0 0) 2 0) tl) := by
  refine AM.of (pl := pl_M) (by decide) v_good fl_M_ok kl_M_ok nofun (Nat.le_of_ble_eq_true rfl) ?_
  intro p e s m args below meth c X
  refine AW.run X M_drop_d 0 2 rfl ?_
  refine AW.mp0 X (M_drop_d.d 2 rfl) ?_
  refine AW.run X M_drop_d 3 5 rfl ?_
  refine AW.mp2 X (M_drop_d.d 8 rfl) ?_
  refine AW.run X M_drop_d 9 1 rfl ?_
  exact AW.iret X (M_drop_d.d 10 rfl) (Nat.le_of_ble_eq_true rfl) (Nat.le_of_ble_eq_true rfl) ⟨rfl, rfl⟩

set_option maxHeartbeats 4000000 in
set_option maxRecDepth 100000 in
theorem M_clear_m {l : Launch} {G : ax_G} (S : x_S) (M : x_M) (tl : List va_E)  :
    AM l VV G M_clear_y M_clear_c 2 (some .int) 0 0 0 [.ref 111] (x_hM S M tl) (fun v h' => v = some (.int (M.1 5)) ∧ h' = x_hM S (y_i (y_i M 0 0) 5 0) tl) := by
  refine AM.of (pl := pl_M) (by decide) v_good fl_M_ok kl_M_ok nofun (Nat.le_of_ble_eq_true rfl) ?_
  intro p e s m args below meth c X
  refine AW.run X M_clear_d 0 2 rfl ?_
  refine AW.mp0 X (M_clear_d.d 2 rfl) ?_
  refine AW.run X M_clear_d 3 5 rfl ?_
  refine AW.mp5 X (M_clear_d.d 8 rfl) ?_
  refine AW.run X M_clear_d 9 1 rfl ?_
  exact AW.iret X (M_clear_d.d 10 rfl) (Nat.le_of_ble_eq_true rfl) (Nat.le_of_ble_eq_true rfl) ⟨rfl, rfl⟩

set_option maxHeartbeats 4000000 in
set_option maxRecDepth 100000 in
theorem M_fault_m {l : Launch} {G : ax_G} (S : x_S) (M : x_M) (tl : List va_E) (w : Int32) :
    AM l VV G M_fault_y M_fault_c 2 (some .int) 0 0 0 [.ref 111, .int w] (x_hM S M tl) (fun v h' => v = some (.int (if w = 0 then M.1 3 else if w = 1 then M.1 4 else -1)) ∧ h' = x_hM S (y_i M 0 0) tl) := by
  refine AM.of (pl := pl_M) (by decide) v_good fl_M_ok kl_M_ok nofun (Nat.le_of_ble_eq_true rfl) ?_
  intro p e s m args below meth c X
  refine AW.run X M_fault_d 0 2 rfl ?_
  refine AW.mp0 X (M_fault_d.d 2 rfl) ?_
  refine AW.run X M_fault_d 3 1 rfl ?_
  refine AW.if_ne X (M_fault_d.d 4 rfl) (fun q4 => ?_) (fun q4 => ?_)
  · refine AW.run X M_fault_d 8 2 rfl ?_
    refine AW.icmp_ne X (M_fault_d.d 10 rfl) (fun q10 => ?_) (fun q10 => ?_)
    · refine AW.run X M_fault_d 14 1 rfl ?_
      exact AW.iret X (M_fault_d.d 15 rfl) (Nat.le_of_ble_eq_true rfl) (Nat.le_of_ble_eq_true rfl) ⟨by rw [if_neg q4, if_neg (show ¬ w = 1 from q10)]; rfl, rfl⟩
    · refine AW.run X M_fault_d 11 2 rfl ?_
      refine AW.goto X (M_fault_d.d 13 rfl) ?_
      exact AW.iret X (M_fault_d.d 15 rfl) (Nat.le_of_ble_eq_true rfl) (Nat.le_of_ble_eq_true rfl) ⟨by rw [if_neg q4, if_pos (show w = 1 from q10)]; rfl, rfl⟩
  · refine AW.run X M_fault_d 5 2 rfl ?_
    refine AW.goto X (M_fault_d.d 7 rfl) ?_
    exact AW.iret X (M_fault_d.d 15 rfl) (Nat.le_of_ble_eq_true rfl) (Nat.le_of_ble_eq_true rfl) ⟨by rw [if_pos q4]; rfl, rfl⟩

set_option maxHeartbeats 4000000 in
set_option maxRecDepth 100000 in
theorem M_tellFault_m {l : Launch} {G : ax_G} (S : x_S) (M : x_M) (tl : List va_E) (a b : Int32) :
    AM l VV G M_tellFault_y M_tellFault_c 3 none 0 0 0 [.ref 111, .int a, .int b] (x_hM S M tl) (fun v h' => v = none ∧ h' = x_hM S (y_i (y_i M 3 a) 4 b) tl) := by
  refine AM.of (pl := pl_M) (by decide) v_good fl_M_ok kl_M_ok nofun (Nat.le_of_ble_eq_true rfl) ?_
  intro p e s m args below meth c X
  refine AW.run X M_tellFault_d 0 2 rfl ?_
  refine AW.mp3 X (M_tellFault_d.d 2 rfl) ?_
  refine AW.run X M_tellFault_d 3 2 rfl ?_
  refine AW.mp4 X (M_tellFault_d.d 5 rfl) ?_
  exact AW.vret X (M_tellFault_d.d 6 rfl) (Nat.le_of_ble_eq_true rfl) (Nat.le_of_ble_eq_true rfl) ⟨rfl, rfl⟩

set_option maxHeartbeats 4000000 in
set_option maxRecDepth 100000 in
theorem M_isBrace_m {l : Launch} {G : ax_G} {h : List va_E} (a : Int32) :
    AM l VV G M_isBrace_y M_isBrace_c 1 (some .boolean) 0 0 0 [.int a] (h) (fun v h' => v = some (.int (bI (decide (a = 123 ∨ a = 125)))) ∧ h' = h) := by
  refine AM.of (pl := pl_M) (by decide) v_good fl_M_ok kl_M_ok nofun (Nat.le_of_ble_eq_true rfl) ?_
  intro p e s m args below meth c X
  refine AW.run X M_isBrace_d 0 2 rfl ?_
  refine AW.icmp_eq X (M_isBrace_d.d 2 rfl) (fun q2 => ?_) (fun q2 => ?_)
  · refine AW.run X M_isBrace_d 6 1 rfl ?_
    refine AW.goto X (M_isBrace_d.d 7 rfl) ?_
    exact AW.zret X n_1 (M_isBrace_d.d 9 rfl) (Nat.le_of_ble_eq_true rfl) (Nat.le_of_ble_eq_true rfl) ⟨vb_t (Or.inl q2), rfl⟩
  · refine AW.run X M_isBrace_d 3 2 rfl ?_
    refine AW.icmp_ne X (M_isBrace_d.d 5 rfl) (fun q5 => ?_) (fun q5 => ?_)
    · refine AW.run X M_isBrace_d 8 1 rfl ?_
      exact AW.zret X n_0 (M_isBrace_d.d 9 rfl) (Nat.le_of_ble_eq_true rfl) (Nat.le_of_ble_eq_true rfl) ⟨vb_f (fun z => Or.elim z q2 q5), rfl⟩
    · refine AW.run X M_isBrace_d 6 1 rfl ?_
      refine AW.goto X (M_isBrace_d.d 7 rfl) ?_
      exact AW.zret X n_1 (M_isBrace_d.d 9 rfl) (Nat.le_of_ble_eq_true rfl) (Nat.le_of_ble_eq_true rfl) ⟨vb_t (Or.inr q5), rfl⟩

set_option maxHeartbeats 4000000 in
set_option maxRecDepth 100000 in
theorem M_isDigit_m {l : Launch} {G : ax_G} {h : List va_E} (a : Int32) :
    AM l VV G M_isDigit_y M_isDigit_c 1 (some .boolean) 0 0 0 [.int a] (h) (fun v h' => v = some (.int (bI (decide (48 ≤ a ∧ a ≤ 57)))) ∧ h' = h) := by
  refine AM.of (pl := pl_M) (by decide) v_good fl_M_ok kl_M_ok nofun (Nat.le_of_ble_eq_true rfl) ?_
  intro p e s m args below meth c X
  refine AW.run X M_isDigit_d 0 2 rfl ?_
  refine AW.icmp_lt X (M_isDigit_d.d 2 rfl) (fun q2 => ?_) (fun q2 => ?_)
  · refine AW.run X M_isDigit_d 8 1 rfl ?_
    exact AW.zret X n_0 (M_isDigit_d.d 9 rfl) (Nat.le_of_ble_eq_true rfl) (Nat.le_of_ble_eq_true rfl) ⟨vb_f (fun z => k2_nle q2 z.1), rfl⟩
  · refine AW.run X M_isDigit_d 3 2 rfl ?_
    refine AW.icmp_gt X (M_isDigit_d.d 5 rfl) (fun q5 => ?_) (fun q5 => ?_)
    · refine AW.run X M_isDigit_d 8 1 rfl ?_
      exact AW.zret X n_0 (M_isDigit_d.d 9 rfl) (Nat.le_of_ble_eq_true rfl) (Nat.le_of_ble_eq_true rfl) ⟨vb_f (fun z => k2_nle q5 z.2), rfl⟩
    · refine AW.run X M_isDigit_d 6 1 rfl ?_
      refine AW.goto X (M_isDigit_d.d 7 rfl) ?_
      exact AW.zret X n_1 (M_isDigit_d.d 9 rfl) (Nat.le_of_ble_eq_true rfl) (Nat.le_of_ble_eq_true rfl) ⟨vb_t ⟨k2_le q2, k2_le q5⟩, rfl⟩

set_option maxHeartbeats 4000000 in
set_option maxRecDepth 100000 in
theorem M_cut_m {l : Launch} {G : ax_G} (S : x_S) (M : x_M) (tl : List va_E) (w : Int32) (n : Nat) (hn : n ≤ 8192) (hsz : M.1 1 = nI n) :
    AM l VV G M_cut_y M_cut_c 3 (some .int) 1 0 0 [.ref 111, .int w] (x_hM S M tl) (fun v h' => if w < 0 then v = some (.int 0) ∧ h' = x_hM S (y_i M 0 1) tl else ∃ k, w = nI k ∧ v = some (.int (nI (n - k))) ∧ h' = x_hM S (y_i (y_i M 0 0) 1 (nI (n - (n - k)))) tl) := by
  refine AM.of (pl := pl_M) (by decide) v_good fl_M_ok kl_M_ok nofun (Nat.le_of_ble_eq_true rfl) ?_
  intro p e s m args below meth c X
  refine AW.run X M_cut_d 0 2 rfl ?_
  have J10 : ∀ (z : Int32), z = (if w < 0 then 1 else 0) → AW p l e (ax_R 1 0 0) s m args below meth c VV G 3 (x_hM S M tl) 0 0 (MQ below (ax_Q VV G (fun v h' => if w < 0 then v = some (.int 0) ∧ h' = x_hM S (y_i M 0 1) tl else ∃ k, w = nI k ∧ v = some (.int (nI (n - k))) ∧ h' = x_hM S (y_i (y_i M 0 0) 1 (nI (n - (n - k)))) tl)) args s 0 0 (fun q => G.bs ≤ q)) 10 [(0, .ref 111), (1, .int w)] [.int z, .ref 111] := by
    intro z hz
    refine AW.callV (As := [.int z]) X (M_refused_m S M tl z) cb_M_84 rfl rfl M_refused_im M_refused_se rfl ⟨Nat.le_of_ble_eq_true rfl, Nat.le_of_ble_eq_true rfl⟩ (Nat.le_of_ble_eq_true rfl) ⟨Nat.le_of_ble_eq_true rfl, Nat.le_of_ble_eq_true rfl⟩ (M_cut_d.d 6 rfl) (fun v h' q => ?_)
    obtain ⟨rfl, rfl⟩ := q
    refine AW.if_eq X (M_cut_d.d 7 rfl) (fun q7 => ?_) (fun q7 => ?_)
    · have hw : ¬ w < 0 := fun q => by rw [if_pos q] at hz; subst hz; exact absurd q7 (by decide)
      rw [if_neg hw] at hz
      subst hz
      obtain ⟨k, hk, rfl⟩ := nI_of hw
      refine AW.run X M_cut_d 10 3 rfl ?_
      refine AW.icmp_le X (M_cut_d.d 13 rfl) (fun q13 => ?_) (fun q13 => ?_)
      · refine AW.run X M_cut_d 19 7 rfl ?_
        refine AW.mp1 X (M_cut_d.d 26 rfl) ?_
        refine AW.run X M_cut_d 27 1 rfl ?_
        exact AW.iret X (M_cut_d.d 28 rfl) (Nat.le_of_ble_eq_true rfl) (Nat.le_of_ble_eq_true rfl) (by rw [if_neg hw]; sorry)
      · refine AW.run X M_cut_d 14 4 rfl ?_
        refine AW.goto X (M_cut_d.d 18 rfl) ?_
        refine AW.run X M_cut_d 20 6 rfl ?_
        refine AW.mp1 X (M_cut_d.d 26 rfl) ?_
        refine AW.run X M_cut_d 27 1 rfl ?_
        exact AW.iret X (M_cut_d.d 28 rfl) (Nat.le_of_ble_eq_true rfl) (Nat.le_of_ble_eq_true rfl) (by rw [if_neg hw]; sorry)
    · have hw : w < 0 := Classical.byContradiction fun q => by rw [if_neg q] at hz; subst hz; exact q7 (by decide)
      rw [if_pos hw] at hz
      subst hz
      refine AW.run X M_cut_d 8 1 rfl ?_
      exact AW.iret X (M_cut_d.d 9 rfl) (Nat.le_of_ble_eq_true rfl) (Nat.le_of_ble_eq_true rfl) (by rw [if_pos hw]; exact ⟨rfl, rfl⟩)
  refine AW.if_ge X (M_cut_d.d 2 rfl) (fun q2 => ?_) (fun q2 => ?_)
  · refine AW.run X M_cut_d 5 1 rfl ?_
    exact J10 _ (if_neg (k2_nlt q2)).symm
  · refine AW.run X M_cut_d 3 1 rfl ?_
    refine AW.goto X (M_cut_d.d 4 rfl) ?_
    exact J10 _ (if_pos (k2_lt q2)).symm

