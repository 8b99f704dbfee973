/-! MAKE, the reference -/
def mk0 (M : x_M) : x_M := y_i (y_i (y_i M 0 0) 3 (-1)) 4 (-1)
/-- the bytes are taken, and nothing else is changed -/
def BX (M Mx : x_M) (m0 r : Nat) : Prop := (Mx.1 0 = 0 ∧ Mx.1 3 = -1 ∧ Mx.1 4 = -1) ∧ (Mx.1 1 = M.1 1 ∧ Mx.1 2 = M.1 2 ∧ Mx.1 5 = M.1 5) ∧ (∀ k, k < 8 → Mx.2.1 k = M.2.1 k) ∧ Mx.2.1 8 = upd (M.2.1 8) m0 (nI r) ∧ (∀ j, j < r → Mx.2.1 9 (8192 * m0 + j) = M.2.1 0 j) ∧ ∀ k, k < 8192 * m0 → Mx.2.1 9 k = M.2.1 9 k
theorem BX_of {M : x_M} {m0 r : Nat} {g : Nat → Int32} (h1 : ∀ j, j < r → g (8192 * m0 + j) = M.2.1 0 j) (h2 : ∀ k, k < 8192 * m0 → g k = M.2.1 9 k) : BX M (y_A (y_a (mk0 M) 8 m0 (nI r)) 9 g) m0 r := by
  refine ⟨⟨rfl, rfl, rfl⟩, ⟨rfl, rfl, rfl⟩, fun k hk => ?_, rfl, h1, h2⟩
  show va_up _ 9 g k = _
  unfold va_up
  rw [if_neg (by omega)]
  show va_up _ 8 _ k = _
  unfold va_up
  rw [if_neg (by omega)]
  rfl
theorem BX.rw {M Mx My : x_M} {m0 r : Nat} (h : BX M Mx m0 r) (g : RWf Mx My) : BX M My m0 r := by
  obtain ⟨⟨a1, a2, a3⟩, ⟨b1, b2, b3⟩, c1, c2, c3, c4⟩ := h
  obtain ⟨g1, g2, -⟩ := g
  refine ⟨⟨(g1 0 (by omega)).trans a1, (g1 3 (by omega)).trans a2, (g1 4 (by omega)).trans a3⟩, ⟨(g1 1 (by omega)).trans b1, (g1 2 (by omega)).trans b2, (g1 5 (by omega)).trans b3⟩, fun k hk => (g2 k (by omega) (by omega) (by omega)).trans (c1 k hk), (g2 8 (by decide) (by decide) (by decide)).trans c2, fun j hj => ?_, fun k hk => ?_⟩
  · rw [g2 9 (by decide) (by decide) (by decide)]; exact c3 j hj
  · rw [g2 9 (by decide) (by decide) (by decide)]; exact c4 k hk
/-- a function is made -/
def MK (M M' : x_M) (kd x y : Int32) (m0 n r : Nat) : Prop := (M'.1 0 = 0 ∧ M'.1 3 = -1 ∧ M'.1 4 = -1) ∧ (M'.1 1 = M.1 1 ∧ M'.1 2 = 0 ∧ M'.1 5 = nI (m0 + 1)) ∧ (∀ k, k < 4 → M'.2.1 k = M.2.1 k) ∧ (M'.2.1 4 = upd (M.2.1 4) m0 kd ∧ M'.2.1 5 = upd (M.2.1 5) m0 x ∧ M'.2.1 6 = upd (M.2.1 6) m0 y ∧ M'.2.1 8 = upd (M.2.1 8) m0 (nI r)) ∧ ((∀ j, j < n → M'.2.1 7 (96 * m0 + j) = M.2.1 1 j) ∧ ∀ k, k < 96 * m0 → M'.2.1 7 k = M.2.1 7 k) ∧ (∀ j, j < r → M'.2.1 9 (8192 * m0 + j) = M.2.1 0 j) ∧ ∀ k, k < 8192 * m0 → M'.2.1 9 k = M.2.1 9 k
def mkC (Mx : x_M) (kd x y : Int32) (m0 : Nat) : x_M := y_a (y_a (y_a Mx 4 m0 kd) 5 m0 x) 6 m0 y
theorem mkC_n {Mx : x_M} {kd x y : Int32} {m0 k : Nat} (h : k < 4 ∨ 6 < k) : (mkC Mx kd x y m0).2.1 k = Mx.2.1 k := by
  show va_up _ 6 _ k = _
  unfold va_up
  rw [if_neg (by omega)]
  show va_up _ 5 _ k = _
  unfold va_up
  rw [if_neg (by omega)]
  show va_up _ 4 _ k = _
  unfold va_up
  rw [if_neg (by omega)]
theorem MK_of {M Mx : x_M} {kd x y : Int32} {m0 n r : Nat} {g : Nat → Int32} (hX : BX M Mx m0 r) (h1 : ∀ j, j < n → g (96 * m0 + j) = M.2.1 1 j) (h2 : ∀ k, k < 96 * m0 → g k = M.2.1 7 k) : MK M (y_i (y_i (y_A (mkC Mx kd x y m0) 7 g) 2 0) 5 (nI (m0 + 1))) kd x y m0 n r := by
  obtain ⟨⟨a1, a2, a3⟩, ⟨b1, b2, b3⟩, c1, c2, c3, c4⟩ := hX
  refine ⟨⟨a1, a2, a3⟩, ⟨b1, rfl, rfl⟩, fun k hk => ?_, ⟨?_, ?_, ?_, c2⟩, ⟨h1, h2⟩, c3, c4⟩
  · show va_up _ 7 g k = _
    unfold va_up
    rw [if_neg (by omega), mkC_n (by omega), c1 k (by omega)]
  · show upd (Mx.2.1 4) m0 kd = _
    rw [c1 4 (by decide)]
  · show upd (Mx.2.1 5) m0 x = _
    rw [c1 5 (by decide)]
  · show upd (Mx.2.1 6) m0 y = _
    rw [c1 6 (by decide)]
/-- no function is made -/
def ME (M M' : x_M) (m0 : Nat) (c p : Int32) : Prop := (M'.1 0 = 0 ∧ M'.1 3 = c ∧ M'.1 4 = p) ∧ (M'.1 1 = M.1 1 ∧ M'.1 2 = M.1 2 ∧ M'.1 5 = M.1 5) ∧ (∀ k, k < 8 → M'.2.1 k = M.2.1 k) ∧ (∀ k, k < m0 → M'.2.1 8 k = M.2.1 8 k) ∧ ∀ k, k < 8192 * m0 → M'.2.1 9 k = M.2.1 9 k
theorem ME_0 (M : x_M) (m0 : Nat) (c p : Int32) : ME M (y_i (y_i (mk0 M) 3 c) 4 p) m0 c p := ⟨⟨rfl, rfl, rfl⟩, ⟨rfl, rfl, rfl⟩, fun _ _ => rfl, fun _ _ => rfl, fun _ _ => rfl⟩
theorem ME_of {M Mx : x_M} {m0 r : Nat} {c p : Int32} (hX : BX M Mx m0 r) : ME M (y_i (y_i Mx 3 c) 4 p) m0 c p := by
  obtain ⟨⟨a1, a2, a3⟩, ⟨b1, b2, b3⟩, c1, c2, c3, c4⟩ := hX
  refine ⟨⟨a1, rfl, rfl⟩, ⟨b1, b2, b3⟩, c1, fun k hk => ?_, c4⟩
  show Mx.2.1 8 k = _
  rw [c2]
  exact upd_n (by omega)

set_option maxHeartbeats 4000000 in
set_option maxRecDepth 100000 in
theorem M_makeR_m {l : Launch} {G : ax_G} (S : x_S) (M : x_M) (tl : List va_E) (kd x y : Int32) (hk : ¬ tp_k kd x y) :
    AM l VV G M_make_y M_make_c 6 (some .int) 9 0 0 [.ref 153, .int kd, .int x, .int y] (x_hM S M tl) (fun v h' => v = some (.int 0) ∧ h' = x_hM S (y_i M 0 1) tl) := by
  refine AM.of (pl := pl_M) (by decide) v_good fl_M_ok kl_M_ok nofun (Nat.le_of_ble_eq_true rfl) ?_
  intro p0v e0v s0v m0v args below meth c0v X
  refine AW.run X M_make_d 0 4 rfl ?_
  refine AW.callS (As := [.int kd, .int x, .int y]) X (M_isKind_m kd x y) cb_M_149 M_isKind_st rfl ⟨Nat.le_of_ble_eq_true rfl, Nat.le_of_ble_eq_true rfl⟩ (Nat.le_of_ble_eq_true rfl) ⟨Nat.le_of_ble_eq_true rfl, Nat.le_of_ble_eq_true rfl⟩ (M_make_d.d 4 rfl) (fun v h' q => ?_)
  obtain ⟨rfl, rfl⟩ := q
  rw [dc_f hk]
  refine AW.if_ne X (M_make_d.d 5 rfl) (fun q5 => absurd rfl q5) (fun q5 => ?_)
  refine AW.run X M_make_d 6 1 rfl ?_
  refine AW.goto X (M_make_d.d 7 rfl) ?_
  refine AW.callV (As := [.int 1]) X (M_refused_m S M tl 1) cb_M_84 rfl rfl M_refused_im M_refused_se rfl ⟨Nat.le_of_ble_eq_true rfl, Nat.le_of_ble_eq_true rfl⟩ (Nat.le_of_ble_eq_true rfl) ⟨Nat.le_of_ble_eq_true rfl, Nat.le_of_ble_eq_true rfl⟩ (M_make_d.d 15 rfl) (fun v h' q => ?_)
  obtain ⟨rfl, rfl⟩ := q
  refine AW.if_eq X (M_make_d.d 16 rfl) (fun q16 => absurd q16 (by decide)) (fun q16 => ?_)
  refine AW.run X M_make_d 17 1 rfl ?_
  exact AW.iret X (M_make_d.d 18 rfl) (Nat.le_of_ble_eq_true rfl) (Nat.le_of_ble_eq_true rfl) ⟨rfl, rfl⟩

set_option maxHeartbeats 4000000 in
set_option maxRecDepth 100000 in
theorem M_makeQ_m {l : Launch} {G : ax_G} (S : x_S) (M : x_M) (tl : List va_E) (kd : Int32) (i m m0 : Nat) (hk : tp_k kd (nI i) (nI m)) (h5 : M.1 5 = nI m0) (h6 : m0 = 24) :
    AM l VV G M_make_y M_make_c 6 (some .int) 9 0 0 [.ref 153, .int kd, .int (nI i), .int (nI m)] (x_hM S M tl) (fun v h' => v = some (.int 0) ∧ h' = x_hM S (y_i M 0 2) tl) := by
  refine AM.of (pl := pl_M) (by decide) v_good fl_M_ok kl_M_ok nofun (Nat.le_of_ble_eq_true rfl) ?_
  intro p0v e0v s0v m0v args below meth c0v X
  refine AW.run X M_make_d 0 4 rfl ?_
  refine AW.callS (As := [.int kd, .int (nI i), .int (nI m)]) X (M_isKind_m kd (nI i) (nI m)) cb_M_149 M_isKind_st rfl ⟨Nat.le_of_ble_eq_true rfl, Nat.le_of_ble_eq_true rfl⟩ (Nat.le_of_ble_eq_true rfl) ⟨Nat.le_of_ble_eq_true rfl, Nat.le_of_ble_eq_true rfl⟩ (M_make_d.d 4 rfl) (fun v h' q => ?_)
  obtain ⟨rfl, rfl⟩ := q
  rw [dc_t hk]
  refine AW.if_ne X (M_make_d.d 5 rfl) (fun q5 => ?_) (fun q5 => absurd q5 (by decide))
  refine AW.run X M_make_d 8 1 rfl ?_
  refine AW.run X M_make_d 9 1 rfl ?_
  rw [h5]
  refine AW.run X M_make_d 10 1 rfl ?_
  refine AW.icmp_ne X (M_make_d.d 11 rfl) (fun q11 => absurd (by rw [h6]; rfl) q11) (fun q11 => ?_)
  refine AW.run X M_make_d 12 1 rfl ?_
  refine AW.goto X (M_make_d.d 13 rfl) ?_
  refine AW.callV (As := [.int 2]) X (M_refused_m S M tl 2) cb_M_84 rfl rfl M_refused_im M_refused_se rfl ⟨Nat.le_of_ble_eq_true rfl, Nat.le_of_ble_eq_true rfl⟩ (Nat.le_of_ble_eq_true rfl) ⟨Nat.le_of_ble_eq_true rfl, Nat.le_of_ble_eq_true rfl⟩ (M_make_d.d 15 rfl) (fun v h' q => ?_)
  obtain ⟨rfl, rfl⟩ := q
  refine AW.if_eq X (M_make_d.d 16 rfl) (fun q16 => absurd q16 (by decide)) (fun q16 => ?_)
  refine AW.run X M_make_d 17 1 rfl ?_
  exact AW.iret X (M_make_d.d 18 rfl) (Nat.le_of_ble_eq_true rfl) (Nat.le_of_ble_eq_true rfl) ⟨rfl, rfl⟩

set_option maxHeartbeats 4000000 in
set_option maxRecDepth 100000 in
theorem M_makeT_m {l : Launch} {G : ax_G} (S : x_S) (M : x_M) (tl : List va_E) (kd : Int32) (i m m0 n r : Nat) (hk : tp_k kd (nI i) (nI m)) (h5 : M.1 5 = nI m0) (h6 : m0 < 24) (hc : M.1 2 = nI n) (hn : n ≤ 96) (hr : M.1 1 = nI r) (hr8 : r ≤ 8192) (hE : AM l VV G M_isTold_y M_isTold_c 4 (some .boolean) 2 0 0 [.ref 153, .int kd, .int (nI i), .int (nI m)] (x_hM S (mk0 M) tl) (fun v h' => v = some (.int (bI false)) ∧ h' = x_hM S (mk0 M) tl))  :
    AM l VV G M_make_y M_make_c 6 (some .int) 9 0 0 [.ref 153, .int kd, .int (nI i), .int (nI m)] (x_hM S M tl) (fun v h' => v = some (.int (-1)) ∧ ∃ M', h' = x_hM S M' tl ∧ ME M M' m0 1 0) := by
  refine AM.of (pl := pl_M) (by decide) v_good fl_M_ok kl_M_ok nofun (Nat.le_of_ble_eq_true rfl) ?_
  intro p0v e0v s0v m0v args below meth c0v X
  refine AW.run X M_make_d 0 4 rfl ?_
  refine AW.callS (As := [.int kd, .int (nI i), .int (nI m)]) X (M_isKind_m kd (nI i) (nI m)) cb_M_149 M_isKind_st rfl ⟨Nat.le_of_ble_eq_true rfl, Nat.le_of_ble_eq_true rfl⟩ (Nat.le_of_ble_eq_true rfl) ⟨Nat.le_of_ble_eq_true rfl, Nat.le_of_ble_eq_true rfl⟩ (M_make_d.d 4 rfl) (fun v h' q => ?_)
  obtain ⟨rfl, rfl⟩ := q
  rw [dc_t hk]
  refine AW.if_ne X (M_make_d.d 5 rfl) (fun q5 => ?_) (fun q5 => absurd q5 (by decide))
  refine AW.run X M_make_d 8 1 rfl ?_
  refine AW.run X M_make_d 9 1 rfl ?_
  rw [h5]
  refine AW.run X M_make_d 10 1 rfl ?_
  refine AW.icmp_ne X (M_make_d.d 11 rfl) (fun q11 => ?_) (fun q11 => absurd ((nI_eq (a := m0) (b := 24) (by omega) (by decide)).mp q11) (by omega))
  refine AW.run X M_make_d 14 1 rfl ?_
  refine AW.callV (As := [.int 0]) X (M_refused_m S M tl 0) cb_M_84 rfl rfl M_refused_im M_refused_se rfl ⟨Nat.le_of_ble_eq_true rfl, Nat.le_of_ble_eq_true rfl⟩ (Nat.le_of_ble_eq_true rfl) ⟨Nat.le_of_ble_eq_true rfl, Nat.le_of_ble_eq_true rfl⟩ (M_make_d.d 15 rfl) (fun v h' q => ?_)
  obtain ⟨rfl, rfl⟩ := q
  refine AW.if_eq X (M_make_d.d 16 rfl) (fun q16 => ?_) (fun q16 => absurd (by decide) q16)
  refine AW.run X M_make_d 19 3 rfl ?_
  refine AW.callV (As := [.int (-1), .int (-1)]) X (M_tellFault_m S _ tl (-1) (-1)) cb_M_153 rfl rfl M_tellFault_im M_tellFault_se rfl ⟨Nat.le_of_ble_eq_true rfl, Nat.le_of_ble_eq_true rfl⟩ (Nat.le_of_ble_eq_true rfl) ⟨Nat.le_of_ble_eq_true rfl, Nat.le_of_ble_eq_true rfl⟩ (M_make_d.d 22 rfl) (fun v h' q => ?_)
  obtain ⟨rfl, rfl⟩ := q
  refine AW.eq (h' := x_hM S (mk0 M) tl) rfl ?_
  refine AW.run X M_make_d 23 4 rfl ?_
  refine AW.callV (As := [.int kd, .int (nI i), .int (nI m)]) X hE cb_M_157 rfl rfl M_isTold_im M_isTold_se rfl ⟨Nat.le_of_ble_eq_true rfl, Nat.le_of_ble_eq_true rfl⟩ (Nat.le_of_ble_eq_true rfl) ⟨Nat.le_of_ble_eq_true rfl, Nat.le_of_ble_eq_true rfl⟩ (M_make_d.d 27 rfl) (fun v h' q => ?_)
  obtain ⟨rfl, rfl⟩ := q
  refine AW.if_ne X (M_make_d.d 28 rfl) (fun q28 => absurd rfl q28) (fun q28 => ?_)
  refine AW.run X M_make_d 29 3 rfl ?_
  refine AW.callV (As := [.int 1, .int 0]) X (M_tellFault_m S _ tl 1 0) cb_M_153 rfl rfl M_tellFault_im M_tellFault_se rfl ⟨Nat.le_of_ble_eq_true rfl, Nat.le_of_ble_eq_true rfl⟩ (Nat.le_of_ble_eq_true rfl) ⟨Nat.le_of_ble_eq_true rfl, Nat.le_of_ble_eq_true rfl⟩ (M_make_d.d 32 rfl) (fun v h' q => ?_)
  obtain ⟨rfl, rfl⟩ := q
  refine AW.run X M_make_d 33 1 rfl ?_
  exact AW.iret X (M_make_d.d 34 rfl) (Nat.le_of_ble_eq_true rfl) (Nat.le_of_ble_eq_true rfl) ⟨rfl, _, rfl, ME_0 M m0 1 0⟩

set_option maxHeartbeats 4000000 in
set_option maxRecDepth 100000 in
theorem M_makeY_m {l : Launch} {G : ax_G} (S : x_S) (M : x_M) (tl : List va_E) (i m m0 n r : Nat) (hk : tp_k (nI 0) (nI i) (nI m)) (h5 : M.1 5 = nI m0) (h6 : m0 < 24) (hc : M.1 2 = nI n) (hn : n ≤ 96) (hr : M.1 1 = nI r) (hr8 : r ≤ 8192) (hE : AM l VV G M_isTold_y M_isTold_c 4 (some .boolean) 2 0 0 [.ref 153, .int (nI 0), .int (nI i), .int (nI m)] (x_hM S (mk0 M) tl) (fun v h' => v = some (.int (bI true)) ∧ h' = x_hM S (mk0 M) tl)) (hi : 1 ≤ i ∧ i ≤ 3) (hm : 1 ≤ m ∧ m ≤ 4) (hS : tp_S2 (M.2.1 1) n i m m) (hy0 : (r : Int) < tp_y (M.2.1 1) i m) :
    AM l VV G M_make_y M_make_c 6 (some .int) 9 0 0 [.ref 153, .int (nI 0), .int (nI i), .int (nI m)] (x_hM S M tl) (fun v h' => v = some (.int (-1)) ∧ ∃ M', h' = x_hM S M' tl ∧ ME M M' m0 2 (iZ (tp_y (M.2.1 1) i m))) := by
  refine AM.of (pl := pl_M) (by decide) v_good fl_M_ok kl_M_ok nofun (Nat.le_of_ble_eq_true rfl) ?_
  intro p0v e0v s0v m0v args below meth c0v X
  obtain ⟨b1, b2, b3, b4, b5, b6⟩ := tp_y_bd hi hm hS
  have hy : 0 ≤ tp_y (M.2.1 1) i m ∧ tp_y (M.2.1 1) i m ≤ 2097152 := by unfold tp_y; omega
  refine AW.run X M_make_d 0 4 rfl ?_
  refine AW.callS (As := [.int (nI 0), .int (nI i), .int (nI m)]) X (M_isKind_m (nI 0) (nI i) (nI m)) cb_M_149 M_isKind_st rfl ⟨Nat.le_of_ble_eq_true rfl, Nat.le_of_ble_eq_true rfl⟩ (Nat.le_of_ble_eq_true rfl) ⟨Nat.le_of_ble_eq_true rfl, Nat.le_of_ble_eq_true rfl⟩ (M_make_d.d 4 rfl) (fun v h' q => ?_)
  obtain ⟨rfl, rfl⟩ := q
  rw [dc_t hk]
  refine AW.if_ne X (M_make_d.d 5 rfl) (fun q5 => ?_) (fun q5 => absurd q5 (by decide))
  refine AW.run X M_make_d 8 1 rfl ?_
  refine AW.run X M_make_d 9 1 rfl ?_
  rw [h5]
  refine AW.run X M_make_d 10 1 rfl ?_
  refine AW.icmp_ne X (M_make_d.d 11 rfl) (fun q11 => ?_) (fun q11 => absurd ((nI_eq (a := m0) (b := 24) (by omega) (by decide)).mp q11) (by omega))
  refine AW.run X M_make_d 14 1 rfl ?_
  refine AW.callV (As := [.int 0]) X (M_refused_m S M tl 0) cb_M_84 rfl rfl M_refused_im M_refused_se rfl ⟨Nat.le_of_ble_eq_true rfl, Nat.le_of_ble_eq_true rfl⟩ (Nat.le_of_ble_eq_true rfl) ⟨Nat.le_of_ble_eq_true rfl, Nat.le_of_ble_eq_true rfl⟩ (M_make_d.d 15 rfl) (fun v h' q => ?_)
  obtain ⟨rfl, rfl⟩ := q
  refine AW.if_eq X (M_make_d.d 16 rfl) (fun q16 => ?_) (fun q16 => absurd (by decide) q16)
  refine AW.run X M_make_d 19 3 rfl ?_
  refine AW.callV (As := [.int (-1), .int (-1)]) X (M_tellFault_m S _ tl (-1) (-1)) cb_M_153 rfl rfl M_tellFault_im M_tellFault_se rfl ⟨Nat.le_of_ble_eq_true rfl, Nat.le_of_ble_eq_true rfl⟩ (Nat.le_of_ble_eq_true rfl) ⟨Nat.le_of_ble_eq_true rfl, Nat.le_of_ble_eq_true rfl⟩ (M_make_d.d 22 rfl) (fun v h' q => ?_)
  obtain ⟨rfl, rfl⟩ := q
  refine AW.eq (h' := x_hM S (mk0 M) tl) rfl ?_
  refine AW.run X M_make_d 23 4 rfl ?_
  refine AW.callV (As := [.int (nI 0), .int (nI i), .int (nI m)]) X hE cb_M_157 rfl rfl M_isTold_im M_isTold_se rfl ⟨Nat.le_of_ble_eq_true rfl, Nat.le_of_ble_eq_true rfl⟩ (Nat.le_of_ble_eq_true rfl) ⟨Nat.le_of_ble_eq_true rfl, Nat.le_of_ble_eq_true rfl⟩ (M_make_d.d 27 rfl) (fun v h' q => ?_)
  obtain ⟨rfl, rfl⟩ := q
  refine AW.if_ne X (M_make_d.d 28 rfl) (fun q28 => ?_) (fun q28 => absurd q28 (by decide))
  refine AW.run X M_make_d 35 1 rfl ?_
  refine AW.if_ne X (M_make_d.d 36 rfl) (fun q36 => absurd rfl q36) (fun q36 => ?_)
  refine AW.run X M_make_d 37 1 rfl ?_
  refine AW.run X M_make_d 38 1 rfl ?_
  rw [show (mk0 M).1 1 = iZ (r : Int) from hr.trans (iZ_n r)]
  refine AW.run X M_make_d 39 3 rfl ?_
  refine AW.callV (As := [.int (nI i), .int (nI m)]) X (M_sampleBytes_m S (mk0 M) tl i m n hi hm hS) cb_M_160 rfl rfl M_sampleBytes_im M_sampleBytes_se rfl ⟨Nat.le_of_ble_eq_true rfl, Nat.le_of_ble_eq_true rfl⟩ (Nat.le_of_ble_eq_true rfl) ⟨Nat.le_of_ble_eq_true rfl, Nat.le_of_ble_eq_true rfl⟩ (M_make_d.d 42 rfl) (fun v h' q => ?_)
  obtain ⟨rfl, rfl⟩ := q
  refine AW.icmp_ge X (M_make_d.d 43 rfl) (fun q43 => absurd ((iZ_le (a := tp_y (M.2.1 1) i m) (b := (r : Int)) ⟨by omega, by omega⟩ ⟨by omega, by omega⟩).mp q43) (by omega)) (fun q43 => ?_)
  refine AW.run X M_make_d 44 5 rfl ?_
  refine AW.callV (As := [.int (nI i), .int (nI m)]) X (M_sampleBytes_m S (mk0 M) tl i m n hi hm hS) cb_M_160 rfl rfl M_sampleBytes_im M_sampleBytes_se rfl ⟨Nat.le_of_ble_eq_true rfl, Nat.le_of_ble_eq_true rfl⟩ (Nat.le_of_ble_eq_true rfl) ⟨Nat.le_of_ble_eq_true rfl, Nat.le_of_ble_eq_true rfl⟩ (M_make_d.d 49 rfl) (fun v h' q => ?_)
  obtain ⟨rfl, rfl⟩ := q
  refine AW.callV (As := [.int 2, .int (iZ (tp_y (M.2.1 1) i m))]) X (M_tellFault_m S _ tl 2 (iZ (tp_y (M.2.1 1) i m))) cb_M_153 rfl rfl M_tellFault_im M_tellFault_se rfl ⟨Nat.le_of_ble_eq_true rfl, Nat.le_of_ble_eq_true rfl⟩ (Nat.le_of_ble_eq_true rfl) ⟨Nat.le_of_ble_eq_true rfl, Nat.le_of_ble_eq_true rfl⟩ (M_make_d.d 50 rfl) (fun v h' q => ?_)
  obtain ⟨rfl, rfl⟩ := q
  refine AW.run X M_make_d 51 1 rfl ?_
  exact AW.iret X (M_make_d.d 52 rfl) (Nat.le_of_ble_eq_true rfl) (Nat.le_of_ble_eq_true rfl) ⟨rfl, _, rfl, ME_0 M m0 2 (iZ (tp_y (M.2.1 1) i m))⟩

set_option maxHeartbeats 4000000 in
set_option maxRecDepth 100000 in
theorem M_makeS_m {l : Launch} {G : ax_G} (S : x_S) (M : x_M) (tl : List va_E) (i m m0 n r : Nat) (hk : tp_k (nI 0) (nI i) (nI m)) (h5 : M.1 5 = nI m0) (h6 : m0 < 24) (hc : M.1 2 = nI n) (hn : n ≤ 96) (hr : M.1 1 = nI r) (hr8 : r ≤ 8192) (hE : AM l VV G M_isTold_y M_isTold_c 4 (some .boolean) 2 0 0 [.ref 153, .int (nI 0), .int (nI i), .int (nI m)] (x_hM S (mk0 M) tl) (fun v h' => v = some (.int (bI true)) ∧ h' = x_hM S (mk0 M) tl)) (hB : ∀ j, j < r → (M.2.1 0 j).toInt8.toInt32 = M.2.1 0 j) (hi : 1 ≤ i ∧ i ≤ 3) (hm : 1 ≤ m ∧ m ≤ 4) (hS : tp_S2 (M.2.1 1) n i m m) (hy0 : tp_y (M.2.1 1) i m ≤ (r : Int)) :
    AM l VV G M_make_y M_make_c 6 (some .int) 9 0 0 [.ref 153, .int (nI 0), .int (nI i), .int (nI m)] (x_hM S M tl) (fun v h' => v = some (.int (nI m0)) ∧ ∃ M', h' = x_hM S M' tl ∧ MK M M' (nI 0) (nI i) (nI m) m0 n r) := by
  refine AM.of (pl := pl_M) (by decide) v_good fl_M_ok kl_M_ok nofun (Nat.le_of_ble_eq_true rfl) ?_
  intro p0v e0v s0v m0v args below meth c0v X
  obtain ⟨b1, b2, b3, b4, b5, b6⟩ := tp_y_bd hi hm hS
  have hy : 0 ≤ tp_y (M.2.1 1) i m ∧ tp_y (M.2.1 1) i m ≤ 2097152 := by unfold tp_y; omega
  refine AW.run X M_make_d 0 4 rfl ?_
  refine AW.callS (As := [.int (nI 0), .int (nI i), .int (nI m)]) X (M_isKind_m (nI 0) (nI i) (nI m)) cb_M_149 M_isKind_st rfl ⟨Nat.le_of_ble_eq_true rfl, Nat.le_of_ble_eq_true rfl⟩ (Nat.le_of_ble_eq_true rfl) ⟨Nat.le_of_ble_eq_true rfl, Nat.le_of_ble_eq_true rfl⟩ (M_make_d.d 4 rfl) (fun v h' q => ?_)
  obtain ⟨rfl, rfl⟩ := q
  rw [dc_t hk]
  refine AW.if_ne X (M_make_d.d 5 rfl) (fun q5 => ?_) (fun q5 => absurd q5 (by decide))
  refine AW.run X M_make_d 8 1 rfl ?_
  refine AW.run X M_make_d 9 1 rfl ?_
  rw [h5]
  refine AW.run X M_make_d 10 1 rfl ?_
  refine AW.icmp_ne X (M_make_d.d 11 rfl) (fun q11 => ?_) (fun q11 => absurd ((nI_eq (a := m0) (b := 24) (by omega) (by decide)).mp q11) (by omega))
  refine AW.run X M_make_d 14 1 rfl ?_
  refine AW.callV (As := [.int 0]) X (M_refused_m S M tl 0) cb_M_84 rfl rfl M_refused_im M_refused_se rfl ⟨Nat.le_of_ble_eq_true rfl, Nat.le_of_ble_eq_true rfl⟩ (Nat.le_of_ble_eq_true rfl) ⟨Nat.le_of_ble_eq_true rfl, Nat.le_of_ble_eq_true rfl⟩ (M_make_d.d 15 rfl) (fun v h' q => ?_)
  obtain ⟨rfl, rfl⟩ := q
  refine AW.if_eq X (M_make_d.d 16 rfl) (fun q16 => ?_) (fun q16 => absurd (by decide) q16)
  refine AW.run X M_make_d 19 3 rfl ?_
  refine AW.callV (As := [.int (-1), .int (-1)]) X (M_tellFault_m S _ tl (-1) (-1)) cb_M_153 rfl rfl M_tellFault_im M_tellFault_se rfl ⟨Nat.le_of_ble_eq_true rfl, Nat.le_of_ble_eq_true rfl⟩ (Nat.le_of_ble_eq_true rfl) ⟨Nat.le_of_ble_eq_true rfl, Nat.le_of_ble_eq_true rfl⟩ (M_make_d.d 22 rfl) (fun v h' q => ?_)
  obtain ⟨rfl, rfl⟩ := q
  refine AW.eq (h' := x_hM S (mk0 M) tl) rfl ?_
  refine AW.run X M_make_d 23 4 rfl ?_
  refine AW.callV (As := [.int (nI 0), .int (nI i), .int (nI m)]) X hE cb_M_157 rfl rfl M_isTold_im M_isTold_se rfl ⟨Nat.le_of_ble_eq_true rfl, Nat.le_of_ble_eq_true rfl⟩ (Nat.le_of_ble_eq_true rfl) ⟨Nat.le_of_ble_eq_true rfl, Nat.le_of_ble_eq_true rfl⟩ (M_make_d.d 27 rfl) (fun v h' q => ?_)
  obtain ⟨rfl, rfl⟩ := q
  refine AW.if_ne X (M_make_d.d 28 rfl) (fun q28 => ?_) (fun q28 => absurd q28 (by decide))
  refine AW.run X M_make_d 35 1 rfl ?_
  refine AW.if_ne X (M_make_d.d 36 rfl) (fun q36 => absurd rfl q36) (fun q36 => ?_)
  refine AW.run X M_make_d 37 1 rfl ?_
  refine AW.run X M_make_d 38 1 rfl ?_
  rw [show (mk0 M).1 1 = iZ (r : Int) from hr.trans (iZ_n r)]
  refine AW.run X M_make_d 39 3 rfl ?_
  refine AW.callV (As := [.int (nI i), .int (nI m)]) X (M_sampleBytes_m S (mk0 M) tl i m n hi hm hS) cb_M_160 rfl rfl M_sampleBytes_im M_sampleBytes_se rfl ⟨Nat.le_of_ble_eq_true rfl, Nat.le_of_ble_eq_true rfl⟩ (Nat.le_of_ble_eq_true rfl) ⟨Nat.le_of_ble_eq_true rfl, Nat.le_of_ble_eq_true rfl⟩ (M_make_d.d 42 rfl) (fun v h' q => ?_)
  obtain ⟨rfl, rfl⟩ := q
  refine AW.icmp_ge X (M_make_d.d 43 rfl) (fun q43 => ?_) (fun q43 => absurd ((iZ_le (a := tp_y (M.2.1 1) i m) (b := (r : Int)) ⟨by omega, by omega⟩ ⟨by omega, by omega⟩).mpr hy0) q43)
  refine AW.run X M_make_d 53 1 rfl ?_
  refine AW.run X M_make_d 54 1 rfl ?_
  rw [show (mk0 M).1 5 = nI m0 from h5]
  refine AW.run X M_make_d 55 5 rfl ?_
  refine AW.run X M_make_d 60 1 rfl ?_
  rw [show (mk0 M).1 1 = nI r from hr]
  refine AW.ms8 (j := m0) X rfl h6 (M_make_d.d 61 rfl) ?_
  refine AW.run X M_make_d 62 2 rfl ?_
  have L110 : ∀ (t1 k : Nat) (g : Nat → Int32), k ≤ r → r - k < t1 → (∀ j, j < k → g (8192 * m0 + j) = M.2.1 0 j) → (∀ j, j < 8192 * m0 → g j = M.2.1 9 j) → AW p0v l e0v (ax_R 9 0 0) s0v m0v args below meth c0v VV G 6 (x_hM S (y_A (y_a (mk0 M) 8 m0 (nI r)) 9 g) tl) 0 0 (MQ below (ax_Q VV G (fun v h' => v = some (.int (nI m0)) ∧ ∃ M', h' = x_hM S M' tl ∧ MK M M' (nI 0) (nI i) (nI m) m0 n r)) args s0v 0 0 (fun q => G.bs ≤ q)) 110 [(5, .int (nI k)), (4, .int (nI m0)), (0, .ref 153), (1, .int (nI 0)), (2, .int (nI i)), (3, .int (nI m))] [] := by
    intro t1
    induction t1 with
    | zero => intro k g a1 a2; exact absurd a2 (by omega)
    | succ t1 ih1 =>
      intro k g a1 a2 a3 a4
      refine AW.run X M_make_d 64 2 rfl ?_
      refine AW.run X M_make_d 66 1 rfl ?_
      rw [show (y_A (y_a (mk0 M) 8 m0 (nI r)) 9 g).1 1 = nI r from hr]
      refine AW.icmp_ge X (M_make_d.d 67 rfl) (fun q67 => ?_) (fun q67 => ?_)
      · have hBX : BX M (y_A (y_a (mk0 M) 8 m0 (nI r)) 9 g) m0 r := BX_of (fun j hj => a3 j (by have := cge q67; omega)) a4
        have J178 : ∀ (Mx : x_M), BX M Mx m0 r → AW p0v l e0v (ax_R 9 0 0) s0v m0v args below meth c0v VV G 6 (x_hM S Mx tl) 0 0 (MQ below (ax_Q VV G (fun v h' => v = some (.int (nI m0)) ∧ ∃ M', h' = x_hM S M' tl ∧ MK M M' (nI 0) (nI i) (nI m) m0 n r)) args s0v 0 0 (fun q => G.bs ≤ q)) 178 [(4, .int (nI m0)), (0, .ref 153), (1, .int (nI 0)), (2, .int (nI i)), (3, .int (nI m))] [] := by
          intro Mx hX
          refine AW.run X M_make_d 99 4 rfl ?_
          refine AW.ms4 (j := m0) X rfl h6 (M_make_d.d 103 rfl) ?_
          refine AW.run X M_make_d 104 4 rfl ?_
          refine AW.ms5 (j := m0) X rfl h6 (M_make_d.d 108 rfl) ?_
          refine AW.run X M_make_d 109 4 rfl ?_
          refine AW.ms6 (j := m0) X rfl h6 (M_make_d.d 113 rfl) ?_
          refine AW.run X M_make_d 114 2 rfl ?_
          have L205 : ∀ (t2 k : Nat) (g7 : Nat → Int32), k ≤ n → n - k < t2 → (∀ j, j < k → g7 (96 * m0 + j) = M.2.1 1 j) → (∀ j, j < 96 * m0 → g7 j = M.2.1 7 j) → AW p0v l e0v (ax_R 9 0 0) s0v m0v args below meth c0v VV G 6 (x_hM S (y_A (mkC Mx (nI 0) (nI i) (nI m) m0) 7 g7) tl) 0 0 (MQ below (ax_Q VV G (fun v h' => v = some (.int (nI m0)) ∧ ∃ M', h' = x_hM S M' tl ∧ MK M M' (nI 0) (nI i) (nI m) m0 n r)) args s0v 0 0 (fun q => G.bs ≤ q)) 205 [(5, .int (nI k)), (4, .int (nI m0)), (0, .ref 153), (1, .int (nI 0)), (2, .int (nI i)), (3, .int (nI m))] [] := by
            intro t2
            induction t2 with
            | zero => intro k g7 a1 a2; exact absurd a2 (by omega)
            | succ t2 ih2 =>
              intro k g7 a1 a2 a3 a4
              refine AW.run X M_make_d 116 2 rfl ?_
              refine AW.run X M_make_d 118 1 rfl ?_
              rw [show (y_A (mkC Mx (nI 0) (nI i) (nI m) m0) 7 g7).1 2 = nI n from hX.2.1.2.1.trans hc]
              refine AW.icmp_ge X (M_make_d.d 119 rfl) (fun q119 => ?_) (fun q119 => ?_)
              · refine AW.run X M_make_d 134 2 rfl ?_
                refine AW.mp2 X (M_make_d.d 136 rfl) ?_
                refine AW.run X M_make_d 137 2 rfl ?_
                refine AW.run X M_make_d 139 3 rfl ?_
                rw [show (y_i (y_A (mkC Mx (nI 0) (nI i) (nI m) m0) 7 g7) 2 (Int32.ofInt 0)).1 5 = nI m0 from hX.2.1.2.2.trans h5, nI_o1]
                refine AW.mp5 X (M_make_d.d 142 rfl) ?_
                refine AW.run X M_make_d 143 1 rfl ?_
                exact AW.iret X (M_make_d.d 144 rfl) (Nat.le_of_ble_eq_true rfl) (Nat.le_of_ble_eq_true rfl) ⟨rfl, _, rfl, MK_of hX (fun j hj => a3 j (by have := cge q119; omega)) a4⟩
              · have hk2 : k < n := clt q119
                refine AW.run X M_make_d 120 10 rfl ?_
                refine AW.ml1 (j := k) X rfl (by omega) (M_make_d.d 130 rfl) ?_
                rw [show (y_A (mkC Mx (nI 0) (nI i) (nI m) m0) 7 g7).2.1 1 k = M.2.1 1 k from by show (mkC Mx (nI 0) (nI i) (nI m) m0).2.1 1 k = _; rw [mkC_n (by omega), hX.2.2.1 1 (by decide)]]
                refine AW.ms7 (j := 96 * m0 + k) X (by rw [show ((Int8.ofInt 96).toInt32 : Int32) * nI m0 = nI (96 * m0) from pk_mul 96 m0, nI_add]) (by omega) (M_make_d.d 131 rfl) ?_
                refine AW.run X M_make_d 132 1 rfl ?_
                refine AW.goto X (M_make_d.d 133 rfl) ?_
                rw [nI_o1, y_aA]
                exact ih2 (k + 1) _ (by omega) (by omega) (fun j hj => by
                  by_cases z : j = k
                  · rw [z, upd_s]
                  · rw [upd_n (by omega)]; exact a3 j (by omega)) (fun j hj => by rw [upd_n (by omega)]; exact a4 j hj)
          exact AW.eq (h' := x_hM S (y_A (mkC Mx (nI 0) (nI i) (nI m) m0) 7 ((mkC Mx (nI 0) (nI i) (nI m) m0).2.1 7)) tl) (by rw [y_A0]; rfl) (L205 (n + 1) 0 _ (by omega) (by omega) (fun j hj => absurd hj (Nat.not_lt_zero j)) (fun j _ => by rw [mkC_n (by omega), hX.2.2.1 7 (by decide)]))
        refine AW.run X M_make_d 82 2 rfl ?_
        refine AW.icmp_ne X (M_make_d.d 84 rfl) (fun q84 => ?_) (fun q84 => absurd q84 (by decide))
        refine AW.pk [1, 2, 3, 4, 5] rfl ?_
        exact J178 _ hBX
      · have hk1 : k < r := clt q67
        refine AW.run X M_make_d 68 10 rfl ?_
        refine AW.ml0 (j := k) X rfl (by omega) (M_make_d.d 78 rfl) ?_
        rw [show (y_A (y_a (mk0 M) 8 m0 (nI r)) 9 g).2.1 0 k = M.2.1 0 k from rfl]
        refine AW.ms9 (j := 8192 * m0 + k) X (by rw [show ((Int16.ofInt 8192).toInt32 : Int32) * nI m0 = nI (8192 * m0) from pk_mul 8192 m0, nI_add]) (by omega) (M_make_d.d 79 rfl) ?_
        refine AW.run X M_make_d 80 1 rfl ?_
        refine AW.goto X (M_make_d.d 81 rfl) ?_
        rw [nI_o1, y_aA, show vp_nar .byte (M.2.1 0 k) = M.2.1 0 k from hB k hk1]
        exact ih1 (k + 1) _ (by omega) (by omega) (fun j hj => by
          by_cases z : j = k
          · rw [z, upd_s]
          · rw [upd_n (by omega)]; exact a3 j (by omega)) (fun j hj => by rw [upd_n (by omega)]; exact a4 j hj)
  exact AW.eq (h' := x_hM S (y_A (y_a (mk0 M) 8 m0 (nI r)) 9 ((y_a (mk0 M) 8 m0 (nI r)).2.1 9)) tl) (by rw [y_A0]) (L110 (r + 1) 0 _ (by omega) (by omega) (fun j hj => absurd hj (Nat.not_lt_zero j)) (fun j _ => rfl))

set_option maxHeartbeats 4000000 in
set_option maxRecDepth 100000 in
theorem M_makeP_m {l : Launch} {G : ax_G} (S : x_S) (M : x_M) (tl : List va_E) (kd : Int32) (i m m0 n r : Nat) (hk : tp_k kd (nI i) (nI m)) (h5 : M.1 5 = nI m0) (h6 : m0 < 24) (hc : M.1 2 = nI n) (hn : n ≤ 96) (hr : M.1 1 = nI r) (hr8 : r ≤ 8192) (hE : AM l VV G M_isTold_y M_isTold_c 4 (some .boolean) 2 0 0 [.ref 153, .int kd, .int (nI i), .int (nI m)] (x_hM S (mk0 M) tl) (fun v h' => v = some (.int (bI true)) ∧ h' = x_hM S (mk0 M) tl)) (hB : ∀ j, j < r → (M.2.1 0 j).toInt8.toInt32 = M.2.1 0 j) (hk0 : kd ≠ 0) (hk4 : kd ≠ 4) :
    AM l VV G M_make_y M_make_c 6 (some .int) 9 0 0 [.ref 153, .int kd, .int (nI i), .int (nI m)] (x_hM S M tl) (fun v h' => v = some (.int (nI m0)) ∧ ∃ M', h' = x_hM S M' tl ∧ MK M M' kd (nI i) (nI m) m0 n r) := by
  refine AM.of (pl := pl_M) (by decide) v_good fl_M_ok kl_M_ok nofun (Nat.le_of_ble_eq_true rfl) ?_
  intro p0v e0v s0v m0v args below meth c0v X
  refine AW.run X M_make_d 0 4 rfl ?_
  refine AW.callS (As := [.int kd, .int (nI i), .int (nI m)]) X (M_isKind_m kd (nI i) (nI m)) cb_M_149 M_isKind_st rfl ⟨Nat.le_of_ble_eq_true rfl, Nat.le_of_ble_eq_true rfl⟩ (Nat.le_of_ble_eq_true rfl) ⟨Nat.le_of_ble_eq_true rfl, Nat.le_of_ble_eq_true rfl⟩ (M_make_d.d 4 rfl) (fun v h' q => ?_)
  obtain ⟨rfl, rfl⟩ := q
  rw [dc_t hk]
  refine AW.if_ne X (M_make_d.d 5 rfl) (fun q5 => ?_) (fun q5 => absurd q5 (by decide))
  refine AW.run X M_make_d 8 1 rfl ?_
  refine AW.run X M_make_d 9 1 rfl ?_
  rw [h5]
  refine AW.run X M_make_d 10 1 rfl ?_
  refine AW.icmp_ne X (M_make_d.d 11 rfl) (fun q11 => ?_) (fun q11 => absurd ((nI_eq (a := m0) (b := 24) (by omega) (by decide)).mp q11) (by omega))
  refine AW.run X M_make_d 14 1 rfl ?_
  refine AW.callV (As := [.int 0]) X (M_refused_m S M tl 0) cb_M_84 rfl rfl M_refused_im M_refused_se rfl ⟨Nat.le_of_ble_eq_true rfl, Nat.le_of_ble_eq_true rfl⟩ (Nat.le_of_ble_eq_true rfl) ⟨Nat.le_of_ble_eq_true rfl, Nat.le_of_ble_eq_true rfl⟩ (M_make_d.d 15 rfl) (fun v h' q => ?_)
  obtain ⟨rfl, rfl⟩ := q
  refine AW.if_eq X (M_make_d.d 16 rfl) (fun q16 => ?_) (fun q16 => absurd (by decide) q16)
  refine AW.run X M_make_d 19 3 rfl ?_
  refine AW.callV (As := [.int (-1), .int (-1)]) X (M_tellFault_m S _ tl (-1) (-1)) cb_M_153 rfl rfl M_tellFault_im M_tellFault_se rfl ⟨Nat.le_of_ble_eq_true rfl, Nat.le_of_ble_eq_true rfl⟩ (Nat.le_of_ble_eq_true rfl) ⟨Nat.le_of_ble_eq_true rfl, Nat.le_of_ble_eq_true rfl⟩ (M_make_d.d 22 rfl) (fun v h' q => ?_)
  obtain ⟨rfl, rfl⟩ := q
  refine AW.eq (h' := x_hM S (mk0 M) tl) rfl ?_
  refine AW.run X M_make_d 23 4 rfl ?_
  refine AW.callV (As := [.int kd, .int (nI i), .int (nI m)]) X hE cb_M_157 rfl rfl M_isTold_im M_isTold_se rfl ⟨Nat.le_of_ble_eq_true rfl, Nat.le_of_ble_eq_true rfl⟩ (Nat.le_of_ble_eq_true rfl) ⟨Nat.le_of_ble_eq_true rfl, Nat.le_of_ble_eq_true rfl⟩ (M_make_d.d 27 rfl) (fun v h' q => ?_)
  obtain ⟨rfl, rfl⟩ := q
  refine AW.if_ne X (M_make_d.d 28 rfl) (fun q28 => ?_) (fun q28 => absurd q28 (by decide))
  refine AW.run X M_make_d 35 1 rfl ?_
  refine AW.if_ne X (M_make_d.d 36 rfl) (fun q36 => ?_) (fun q36 => absurd q36 hk0)
  refine AW.run X M_make_d 53 1 rfl ?_
  refine AW.run X M_make_d 54 1 rfl ?_
  rw [show (mk0 M).1 5 = nI m0 from h5]
  refine AW.run X M_make_d 55 5 rfl ?_
  refine AW.run X M_make_d 60 1 rfl ?_
  rw [show (mk0 M).1 1 = nI r from hr]
  refine AW.ms8 (j := m0) X rfl h6 (M_make_d.d 61 rfl) ?_
  refine AW.run X M_make_d 62 2 rfl ?_
  have L110 : ∀ (t1 k : Nat) (g : Nat → Int32), k ≤ r → r - k < t1 → (∀ j, j < k → g (8192 * m0 + j) = M.2.1 0 j) → (∀ j, j < 8192 * m0 → g j = M.2.1 9 j) → AW p0v l e0v (ax_R 9 0 0) s0v m0v args below meth c0v VV G 6 (x_hM S (y_A (y_a (mk0 M) 8 m0 (nI r)) 9 g) tl) 0 0 (MQ below (ax_Q VV G (fun v h' => v = some (.int (nI m0)) ∧ ∃ M', h' = x_hM S M' tl ∧ MK M M' kd (nI i) (nI m) m0 n r)) args s0v 0 0 (fun q => G.bs ≤ q)) 110 [(5, .int (nI k)), (4, .int (nI m0)), (0, .ref 153), (1, .int kd), (2, .int (nI i)), (3, .int (nI m))] [] := by
    intro t1
    induction t1 with
    | zero => intro k g a1 a2; exact absurd a2 (by omega)
    | succ t1 ih1 =>
      intro k g a1 a2 a3 a4
      refine AW.run X M_make_d 64 2 rfl ?_
      refine AW.run X M_make_d 66 1 rfl ?_
      rw [show (y_A (y_a (mk0 M) 8 m0 (nI r)) 9 g).1 1 = nI r from hr]
      refine AW.icmp_ge X (M_make_d.d 67 rfl) (fun q67 => ?_) (fun q67 => ?_)
      · have hBX : BX M (y_A (y_a (mk0 M) 8 m0 (nI r)) 9 g) m0 r := BX_of (fun j hj => a3 j (by have := cge q67; omega)) a4
        have J178 : ∀ (Mx : x_M), BX M Mx m0 r → AW p0v l e0v (ax_R 9 0 0) s0v m0v args below meth c0v VV G 6 (x_hM S Mx tl) 0 0 (MQ below (ax_Q VV G (fun v h' => v = some (.int (nI m0)) ∧ ∃ M', h' = x_hM S M' tl ∧ MK M M' kd (nI i) (nI m) m0 n r)) args s0v 0 0 (fun q => G.bs ≤ q)) 178 [(4, .int (nI m0)), (0, .ref 153), (1, .int kd), (2, .int (nI i)), (3, .int (nI m))] [] := by
          intro Mx hX
          refine AW.run X M_make_d 99 4 rfl ?_
          refine AW.ms4 (j := m0) X rfl h6 (M_make_d.d 103 rfl) ?_
          refine AW.run X M_make_d 104 4 rfl ?_
          refine AW.ms5 (j := m0) X rfl h6 (M_make_d.d 108 rfl) ?_
          refine AW.run X M_make_d 109 4 rfl ?_
          refine AW.ms6 (j := m0) X rfl h6 (M_make_d.d 113 rfl) ?_
          refine AW.run X M_make_d 114 2 rfl ?_
          have L205 : ∀ (t2 k : Nat) (g7 : Nat → Int32), k ≤ n → n - k < t2 → (∀ j, j < k → g7 (96 * m0 + j) = M.2.1 1 j) → (∀ j, j < 96 * m0 → g7 j = M.2.1 7 j) → AW p0v l e0v (ax_R 9 0 0) s0v m0v args below meth c0v VV G 6 (x_hM S (y_A (mkC Mx kd (nI i) (nI m) m0) 7 g7) tl) 0 0 (MQ below (ax_Q VV G (fun v h' => v = some (.int (nI m0)) ∧ ∃ M', h' = x_hM S M' tl ∧ MK M M' kd (nI i) (nI m) m0 n r)) args s0v 0 0 (fun q => G.bs ≤ q)) 205 [(5, .int (nI k)), (4, .int (nI m0)), (0, .ref 153), (1, .int kd), (2, .int (nI i)), (3, .int (nI m))] [] := by
            intro t2
            induction t2 with
            | zero => intro k g7 a1 a2; exact absurd a2 (by omega)
            | succ t2 ih2 =>
              intro k g7 a1 a2 a3 a4
              refine AW.run X M_make_d 116 2 rfl ?_
              refine AW.run X M_make_d 118 1 rfl ?_
              rw [show (y_A (mkC Mx kd (nI i) (nI m) m0) 7 g7).1 2 = nI n from hX.2.1.2.1.trans hc]
              refine AW.icmp_ge X (M_make_d.d 119 rfl) (fun q119 => ?_) (fun q119 => ?_)
              · refine AW.run X M_make_d 134 2 rfl ?_
                refine AW.mp2 X (M_make_d.d 136 rfl) ?_
                refine AW.run X M_make_d 137 2 rfl ?_
                refine AW.run X M_make_d 139 3 rfl ?_
                rw [show (y_i (y_A (mkC Mx kd (nI i) (nI m) m0) 7 g7) 2 (Int32.ofInt 0)).1 5 = nI m0 from hX.2.1.2.2.trans h5, nI_o1]
                refine AW.mp5 X (M_make_d.d 142 rfl) ?_
                refine AW.run X M_make_d 143 1 rfl ?_
                exact AW.iret X (M_make_d.d 144 rfl) (Nat.le_of_ble_eq_true rfl) (Nat.le_of_ble_eq_true rfl) ⟨rfl, _, rfl, MK_of hX (fun j hj => a3 j (by have := cge q119; omega)) a4⟩
              · have hk2 : k < n := clt q119
                refine AW.run X M_make_d 120 10 rfl ?_
                refine AW.ml1 (j := k) X rfl (by omega) (M_make_d.d 130 rfl) ?_
                rw [show (y_A (mkC Mx kd (nI i) (nI m) m0) 7 g7).2.1 1 k = M.2.1 1 k from by show (mkC Mx kd (nI i) (nI m) m0).2.1 1 k = _; rw [mkC_n (by omega), hX.2.2.1 1 (by decide)]]
                refine AW.ms7 (j := 96 * m0 + k) X (by rw [show ((Int8.ofInt 96).toInt32 : Int32) * nI m0 = nI (96 * m0) from pk_mul 96 m0, nI_add]) (by omega) (M_make_d.d 131 rfl) ?_
                refine AW.run X M_make_d 132 1 rfl ?_
                refine AW.goto X (M_make_d.d 133 rfl) ?_
                rw [nI_o1, y_aA]
                exact ih2 (k + 1) _ (by omega) (by omega) (fun j hj => by
                  by_cases z : j = k
                  · rw [z, upd_s]
                  · rw [upd_n (by omega)]; exact a3 j (by omega)) (fun j hj => by rw [upd_n (by omega)]; exact a4 j hj)
          exact AW.eq (h' := x_hM S (y_A (mkC Mx kd (nI i) (nI m) m0) 7 ((mkC Mx kd (nI i) (nI m) m0).2.1 7)) tl) (by rw [y_A0]; rfl) (L205 (n + 1) 0 _ (by omega) (by omega) (fun j hj => absurd hj (Nat.not_lt_zero j)) (fun j _ => by rw [mkC_n (by omega), hX.2.2.1 7 (by decide)]))
        refine AW.run X M_make_d 82 2 rfl ?_
        refine AW.icmp_ne X (M_make_d.d 84 rfl) (fun q84 => ?_) (fun q84 => absurd q84 hk4)
        refine AW.pk [1, 2, 3, 4, 5] rfl ?_
        exact J178 _ hBX
      · have hk1 : k < r := clt q67
        refine AW.run X M_make_d 68 10 rfl ?_
        refine AW.ml0 (j := k) X rfl (by omega) (M_make_d.d 78 rfl) ?_
        rw [show (y_A (y_a (mk0 M) 8 m0 (nI r)) 9 g).2.1 0 k = M.2.1 0 k from rfl]
        refine AW.ms9 (j := 8192 * m0 + k) X (by rw [show ((Int16.ofInt 8192).toInt32 : Int32) * nI m0 = nI (8192 * m0) from pk_mul 8192 m0, nI_add]) (by omega) (M_make_d.d 79 rfl) ?_
        refine AW.run X M_make_d 80 1 rfl ?_
        refine AW.goto X (M_make_d.d 81 rfl) ?_
        rw [nI_o1, y_aA, show vp_nar .byte (M.2.1 0 k) = M.2.1 0 k from hB k hk1]
        exact ih1 (k + 1) _ (by omega) (by omega) (fun j hj => by
          by_cases z : j = k
          · rw [z, upd_s]
          · rw [upd_n (by omega)]; exact a3 j (by omega)) (fun j hj => by rw [upd_n (by omega)]; exact a4 j hj)
  exact AW.eq (h' := x_hM S (y_A (y_a (mk0 M) 8 m0 (nI r)) 9 ((y_a (mk0 M) 8 m0 (nI r)).2.1 9)) tl) (by rw [y_A0]) (L110 (r + 1) 0 _ (by omega) (by omega) (fun j hj => absurd hj (Nat.not_lt_zero j)) (fun j _ => rfl))

set_option maxHeartbeats 4000000 in
set_option maxRecDepth 100000 in
theorem M_makeG_m {l : Launch} {G : ax_G} (S : x_S) (M : x_M) (tl : List va_E) (i m m0 n r : Nat) (hk : tp_k (nI 4) (nI i) (nI m)) (h5 : M.1 5 = nI m0) (h6 : m0 < 24) (hc : M.1 2 = nI n) (hn : n ≤ 96) (hr : M.1 1 = nI r) (hr8 : r ≤ 8192) (hE : AM l VV G M_isTold_y M_isTold_c 4 (some .boolean) 2 0 0 [.ref 153, .int (nI 4), .int (nI i), .int (nI m)] (x_hM S (mk0 M) tl) (fun v h' => v = some (.int (bI true)) ∧ h' = x_hM S (mk0 M) tl)) (hB : ∀ j, j < r → (M.2.1 0 j).toInt8.toInt32 = M.2.1 0 j) (P0 Q : pP) (k0 : Nat) (h0 : qn P0 = 0 ∧ qd P0 = 0) (hprs : ∀ sg : Nat → Nat, (∀ j, j < r → sg j = sgn (M.2.1 0 j)) → prs sg r 401 (ws sg r 0) P0 = (-1, k0, Q)) :
    AM l VV G M_make_y M_make_c 6 (some .int) 9 0 0 [.ref 153, .int (nI 4), .int (nI i), .int (nI m)] (x_hM S M tl) (fun v h' => v = some (.int (nI m0)) ∧ ∃ M', h' = x_hM S M' tl ∧ MK M M' (nI 4) (nI i) (nI m) m0 n r) := by
  refine AM.of (pl := pl_M) (by decide) v_good fl_M_ok kl_M_ok nofun (Nat.le_of_ble_eq_true rfl) ?_
  intro p0v e0v s0v m0v args below meth c0v X
  refine AW.run X M_make_d 0 4 rfl ?_
  refine AW.callS (As := [.int (nI 4), .int (nI i), .int (nI m)]) X (M_isKind_m (nI 4) (nI i) (nI m)) cb_M_149 M_isKind_st rfl ⟨Nat.le_of_ble_eq_true rfl, Nat.le_of_ble_eq_true rfl⟩ (Nat.le_of_ble_eq_true rfl) ⟨Nat.le_of_ble_eq_true rfl, Nat.le_of_ble_eq_true rfl⟩ (M_make_d.d 4 rfl) (fun v h' q => ?_)
  obtain ⟨rfl, rfl⟩ := q
  rw [dc_t hk]
  refine AW.if_ne X (M_make_d.d 5 rfl) (fun q5 => ?_) (fun q5 => absurd q5 (by decide))
  refine AW.run X M_make_d 8 1 rfl ?_
  refine AW.run X M_make_d 9 1 rfl ?_
  rw [h5]
  refine AW.run X M_make_d 10 1 rfl ?_
  refine AW.icmp_ne X (M_make_d.d 11 rfl) (fun q11 => ?_) (fun q11 => absurd ((nI_eq (a := m0) (b := 24) (by omega) (by decide)).mp q11) (by omega))
  refine AW.run X M_make_d 14 1 rfl ?_
  refine AW.callV (As := [.int 0]) X (M_refused_m S M tl 0) cb_M_84 rfl rfl M_refused_im M_refused_se rfl ⟨Nat.le_of_ble_eq_true rfl, Nat.le_of_ble_eq_true rfl⟩ (Nat.le_of_ble_eq_true rfl) ⟨Nat.le_of_ble_eq_true rfl, Nat.le_of_ble_eq_true rfl⟩ (M_make_d.d 15 rfl) (fun v h' q => ?_)
  obtain ⟨rfl, rfl⟩ := q
  refine AW.if_eq X (M_make_d.d 16 rfl) (fun q16 => ?_) (fun q16 => absurd (by decide) q16)
  refine AW.run X M_make_d 19 3 rfl ?_
  refine AW.callV (As := [.int (-1), .int (-1)]) X (M_tellFault_m S _ tl (-1) (-1)) cb_M_153 rfl rfl M_tellFault_im M_tellFault_se rfl ⟨Nat.le_of_ble_eq_true rfl, Nat.le_of_ble_eq_true rfl⟩ (Nat.le_of_ble_eq_true rfl) ⟨Nat.le_of_ble_eq_true rfl, Nat.le_of_ble_eq_true rfl⟩ (M_make_d.d 22 rfl) (fun v h' q => ?_)
  obtain ⟨rfl, rfl⟩ := q
  refine AW.eq (h' := x_hM S (mk0 M) tl) rfl ?_
  refine AW.run X M_make_d 23 4 rfl ?_
  refine AW.callV (As := [.int (nI 4), .int (nI i), .int (nI m)]) X hE cb_M_157 rfl rfl M_isTold_im M_isTold_se rfl ⟨Nat.le_of_ble_eq_true rfl, Nat.le_of_ble_eq_true rfl⟩ (Nat.le_of_ble_eq_true rfl) ⟨Nat.le_of_ble_eq_true rfl, Nat.le_of_ble_eq_true rfl⟩ (M_make_d.d 27 rfl) (fun v h' q => ?_)
  obtain ⟨rfl, rfl⟩ := q
  refine AW.if_ne X (M_make_d.d 28 rfl) (fun q28 => ?_) (fun q28 => absurd q28 (by decide))
  refine AW.run X M_make_d 35 1 rfl ?_
  refine AW.if_ne X (M_make_d.d 36 rfl) (fun q36 => ?_) (fun q36 => absurd q36 (by decide))
  refine AW.run X M_make_d 53 1 rfl ?_
  refine AW.run X M_make_d 54 1 rfl ?_
  rw [show (mk0 M).1 5 = nI m0 from h5]
  refine AW.run X M_make_d 55 5 rfl ?_
  refine AW.run X M_make_d 60 1 rfl ?_
  rw [show (mk0 M).1 1 = nI r from hr]
  refine AW.ms8 (j := m0) X rfl h6 (M_make_d.d 61 rfl) ?_
  refine AW.run X M_make_d 62 2 rfl ?_
  have L110 : ∀ (t1 k : Nat) (g : Nat → Int32), k ≤ r → r - k < t1 → (∀ j, j < k → g (8192 * m0 + j) = M.2.1 0 j) → (∀ j, j < 8192 * m0 → g j = M.2.1 9 j) → AW p0v l e0v (ax_R 9 0 0) s0v m0v args below meth c0v VV G 6 (x_hM S (y_A (y_a (mk0 M) 8 m0 (nI r)) 9 g) tl) 0 0 (MQ below (ax_Q VV G (fun v h' => v = some (.int (nI m0)) ∧ ∃ M', h' = x_hM S M' tl ∧ MK M M' (nI 4) (nI i) (nI m) m0 n r)) args s0v 0 0 (fun q => G.bs ≤ q)) 110 [(5, .int (nI k)), (4, .int (nI m0)), (0, .ref 153), (1, .int (nI 4)), (2, .int (nI i)), (3, .int (nI m))] [] := by
    intro t1
    induction t1 with
    | zero => intro k g a1 a2; exact absurd a2 (by omega)
    | succ t1 ih1 =>
      intro k g a1 a2 a3 a4
      refine AW.run X M_make_d 64 2 rfl ?_
      refine AW.run X M_make_d 66 1 rfl ?_
      rw [show (y_A (y_a (mk0 M) 8 m0 (nI r)) 9 g).1 1 = nI r from hr]
      refine AW.icmp_ge X (M_make_d.d 67 rfl) (fun q67 => ?_) (fun q67 => ?_)
      · have hBX : BX M (y_A (y_a (mk0 M) 8 m0 (nI r)) 9 g) m0 r := BX_of (fun j hj => a3 j (by have := cge q67; omega)) a4
        have J178 : ∀ (Mx : x_M), BX M Mx m0 r → AW p0v l e0v (ax_R 9 0 0) s0v m0v args below meth c0v VV G 6 (x_hM S Mx tl) 0 0 (MQ below (ax_Q VV G (fun v h' => v = some (.int (nI m0)) ∧ ∃ M', h' = x_hM S M' tl ∧ MK M M' (nI 4) (nI i) (nI m) m0 n r)) args s0v 0 0 (fun q => G.bs ≤ q)) 178 [(4, .int (nI m0)), (0, .ref 153), (1, .int (nI 4)), (2, .int (nI i)), (3, .int (nI m))] [] := by
          intro Mx hX
          refine AW.run X M_make_d 99 4 rfl ?_
          refine AW.ms4 (j := m0) X rfl h6 (M_make_d.d 103 rfl) ?_
          refine AW.run X M_make_d 104 4 rfl ?_
          refine AW.ms5 (j := m0) X rfl h6 (M_make_d.d 108 rfl) ?_
          refine AW.run X M_make_d 109 4 rfl ?_
          refine AW.ms6 (j := m0) X rfl h6 (M_make_d.d 113 rfl) ?_
          refine AW.run X M_make_d 114 2 rfl ?_
          have L205 : ∀ (t2 k : Nat) (g7 : Nat → Int32), k ≤ n → n - k < t2 → (∀ j, j < k → g7 (96 * m0 + j) = M.2.1 1 j) → (∀ j, j < 96 * m0 → g7 j = M.2.1 7 j) → AW p0v l e0v (ax_R 9 0 0) s0v m0v args below meth c0v VV G 6 (x_hM S (y_A (mkC Mx (nI 4) (nI i) (nI m) m0) 7 g7) tl) 0 0 (MQ below (ax_Q VV G (fun v h' => v = some (.int (nI m0)) ∧ ∃ M', h' = x_hM S M' tl ∧ MK M M' (nI 4) (nI i) (nI m) m0 n r)) args s0v 0 0 (fun q => G.bs ≤ q)) 205 [(5, .int (nI k)), (4, .int (nI m0)), (0, .ref 153), (1, .int (nI 4)), (2, .int (nI i)), (3, .int (nI m))] [] := by
            intro t2
            induction t2 with
            | zero => intro k g7 a1 a2; exact absurd a2 (by omega)
            | succ t2 ih2 =>
              intro k g7 a1 a2 a3 a4
              refine AW.run X M_make_d 116 2 rfl ?_
              refine AW.run X M_make_d 118 1 rfl ?_
              rw [show (y_A (mkC Mx (nI 4) (nI i) (nI m) m0) 7 g7).1 2 = nI n from hX.2.1.2.1.trans hc]
              refine AW.icmp_ge X (M_make_d.d 119 rfl) (fun q119 => ?_) (fun q119 => ?_)
              · refine AW.run X M_make_d 134 2 rfl ?_
                refine AW.mp2 X (M_make_d.d 136 rfl) ?_
                refine AW.run X M_make_d 137 2 rfl ?_
                refine AW.run X M_make_d 139 3 rfl ?_
                rw [show (y_i (y_A (mkC Mx (nI 4) (nI i) (nI m) m0) 7 g7) 2 (Int32.ofInt 0)).1 5 = nI m0 from hX.2.1.2.2.trans h5, nI_o1]
                refine AW.mp5 X (M_make_d.d 142 rfl) ?_
                refine AW.run X M_make_d 143 1 rfl ?_
                exact AW.iret X (M_make_d.d 144 rfl) (Nat.le_of_ble_eq_true rfl) (Nat.le_of_ble_eq_true rfl) ⟨rfl, _, rfl, MK_of hX (fun j hj => a3 j (by have := cge q119; omega)) a4⟩
              · have hk2 : k < n := clt q119
                refine AW.run X M_make_d 120 10 rfl ?_
                refine AW.ml1 (j := k) X rfl (by omega) (M_make_d.d 130 rfl) ?_
                rw [show (y_A (mkC Mx (nI 4) (nI i) (nI m) m0) 7 g7).2.1 1 k = M.2.1 1 k from by show (mkC Mx (nI 4) (nI i) (nI m) m0).2.1 1 k = _; rw [mkC_n (by omega), hX.2.2.1 1 (by decide)]]
                refine AW.ms7 (j := 96 * m0 + k) X (by rw [show ((Int8.ofInt 96).toInt32 : Int32) * nI m0 = nI (96 * m0) from pk_mul 96 m0, nI_add]) (by omega) (M_make_d.d 131 rfl) ?_
                refine AW.run X M_make_d 132 1 rfl ?_
                refine AW.goto X (M_make_d.d 133 rfl) ?_
                rw [nI_o1, y_aA]
                exact ih2 (k + 1) _ (by omega) (by omega) (fun j hj => by
                  by_cases z : j = k
                  · rw [z, upd_s]
                  · rw [upd_n (by omega)]; exact a3 j (by omega)) (fun j hj => by rw [upd_n (by omega)]; exact a4 j hj)
          exact AW.eq (h' := x_hM S (y_A (mkC Mx (nI 4) (nI i) (nI m) m0) 7 ((mkC Mx (nI 4) (nI i) (nI m) m0).2.1 7)) tl) (by rw [y_A0]; rfl) (L205 (n + 1) 0 _ (by omega) (by omega) (fun j hj => absurd hj (Nat.not_lt_zero j)) (fun j _ => by rw [mkC_n (by omega), hX.2.2.1 7 (by decide)]))
        refine AW.run X M_make_d 82 2 rfl ?_
        refine AW.icmp_ne X (M_make_d.d 84 rfl) (fun q84 => absurd rfl q84) (fun q84 => ?_)
        refine AW.run X M_make_d 85 2 rfl ?_
        have hh := M_readWords_m (l := l) (G := G) S (y_A (y_a (mk0 M) 8 m0 (nI r)) 9 g) tl m0 r P0 h6 hr8 (upd_s _ _ _) h0
        rw [hprs (sgM (y_A (y_a (mk0 M) 8 m0 (nI r)) 9 g) m0) (fun j hj => congrArg sgn (a3 j (by have := cge q67; omega)))] at hh
        refine AW.callV (As := [.int (nI m0)]) X hh cb_M_164 rfl rfl M_readWords_im M_readWords_se rfl ⟨Nat.le_of_ble_eq_true rfl, Nat.le_of_ble_eq_true rfl⟩ (Nat.le_of_ble_eq_true rfl) ⟨Nat.le_of_ble_eq_true rfl, Nat.le_of_ble_eq_true rfl⟩ (M_make_d.d 87 rfl) (fun v h' q => ?_)
        obtain ⟨rfl, M3, rfl, hw⟩ := q
        refine AW.run X M_make_d 88 1 rfl ?_
        refine AW.run X M_make_d 89 1 rfl ?_
        rw [(hw.2.1 rfl).1]
        refine AW.if_le X (M_make_d.d 90 rfl) (fun q90 => ?_) (fun q90 => absurd (by decide) q90)
        refine AW.pk [1, 2, 3, 4, 5] rfl ?_
        exact J178 _ (hBX.rw hw.1)
      · have hk1 : k < r := clt q67
        refine AW.run X M_make_d 68 10 rfl ?_
        refine AW.ml0 (j := k) X rfl (by omega) (M_make_d.d 78 rfl) ?_
        rw [show (y_A (y_a (mk0 M) 8 m0 (nI r)) 9 g).2.1 0 k = M.2.1 0 k from rfl]
        refine AW.ms9 (j := 8192 * m0 + k) X (by rw [show ((Int16.ofInt 8192).toInt32 : Int32) * nI m0 = nI (8192 * m0) from pk_mul 8192 m0, nI_add]) (by omega) (M_make_d.d 79 rfl) ?_
        refine AW.run X M_make_d 80 1 rfl ?_
        refine AW.goto X (M_make_d.d 81 rfl) ?_
        rw [nI_o1, y_aA, show vp_nar .byte (M.2.1 0 k) = M.2.1 0 k from hB k hk1]
        exact ih1 (k + 1) _ (by omega) (by omega) (fun j hj => by
          by_cases z : j = k
          · rw [z, upd_s]
          · rw [upd_n (by omega)]; exact a3 j (by omega)) (fun j hj => by rw [upd_n (by omega)]; exact a4 j hj)
  exact AW.eq (h' := x_hM S (y_A (y_a (mk0 M) 8 m0 (nI r)) 9 ((y_a (mk0 M) 8 m0 (nI r)).2.1 9)) tl) (by rw [y_A0]) (L110 (r + 1) 0 _ (by omega) (by omega) (fun j hj => absurd hj (Nat.not_lt_zero j)) (fun j _ => rfl))

set_option maxHeartbeats 4000000 in
set_option maxRecDepth 100000 in
theorem M_makeH_m {l : Launch} {G : ax_G} (S : x_S) (M : x_M) (tl : List va_E) (i m m0 n r : Nat) (hk : tp_k (nI 4) (nI i) (nI m)) (h5 : M.1 5 = nI m0) (h6 : m0 < 24) (hc : M.1 2 = nI n) (hn : n ≤ 96) (hr : M.1 1 = nI r) (hr8 : r ≤ 8192) (hE : AM l VV G M_isTold_y M_isTold_c 4 (some .boolean) 2 0 0 [.ref 153, .int (nI 4), .int (nI i), .int (nI m)] (x_hM S (mk0 M) tl) (fun v h' => v = some (.int (bI true)) ∧ h' = x_hM S (mk0 M) tl)) (hB : ∀ j, j < r → (M.2.1 0 j).toInt8.toInt32 = M.2.1 0 j) (P0 Q : pP) (k0 : Nat) (c : Int) (h0 : qn P0 = 0 ∧ qd P0 = 0) (hcz : ¬ iZ c ≤ 0) (hprs : ∀ sg : Nat → Nat, (∀ j, j < r → sg j = sgn (M.2.1 0 j)) → prs sg r 401 (ws sg r 0) P0 = (c, k0, Q)) :
    AM l VV G M_make_y M_make_c 6 (some .int) 9 0 0 [.ref 153, .int (nI 4), .int (nI i), .int (nI m)] (x_hM S M tl) (fun v h' => v = some (.int (-1)) ∧ ∃ M', h' = x_hM S M' tl ∧ ME M M' m0 (iZ c) (nI k0)) := by
  refine AM.of (pl := pl_M) (by decide) v_good fl_M_ok kl_M_ok nofun (Nat.le_of_ble_eq_true rfl) ?_
  intro p0v e0v s0v m0v args below meth c0v X
  refine AW.run X M_make_d 0 4 rfl ?_
  refine AW.callS (As := [.int (nI 4), .int (nI i), .int (nI m)]) X (M_isKind_m (nI 4) (nI i) (nI m)) cb_M_149 M_isKind_st rfl ⟨Nat.le_of_ble_eq_true rfl, Nat.le_of_ble_eq_true rfl⟩ (Nat.le_of_ble_eq_true rfl) ⟨Nat.le_of_ble_eq_true rfl, Nat.le_of_ble_eq_true rfl⟩ (M_make_d.d 4 rfl) (fun v h' q => ?_)
  obtain ⟨rfl, rfl⟩ := q
  rw [dc_t hk]
  refine AW.if_ne X (M_make_d.d 5 rfl) (fun q5 => ?_) (fun q5 => absurd q5 (by decide))
  refine AW.run X M_make_d 8 1 rfl ?_
  refine AW.run X M_make_d 9 1 rfl ?_
  rw [h5]
  refine AW.run X M_make_d 10 1 rfl ?_
  refine AW.icmp_ne X (M_make_d.d 11 rfl) (fun q11 => ?_) (fun q11 => absurd ((nI_eq (a := m0) (b := 24) (by omega) (by decide)).mp q11) (by omega))
  refine AW.run X M_make_d 14 1 rfl ?_
  refine AW.callV (As := [.int 0]) X (M_refused_m S M tl 0) cb_M_84 rfl rfl M_refused_im M_refused_se rfl ⟨Nat.le_of_ble_eq_true rfl, Nat.le_of_ble_eq_true rfl⟩ (Nat.le_of_ble_eq_true rfl) ⟨Nat.le_of_ble_eq_true rfl, Nat.le_of_ble_eq_true rfl⟩ (M_make_d.d 15 rfl) (fun v h' q => ?_)
  obtain ⟨rfl, rfl⟩ := q
  refine AW.if_eq X (M_make_d.d 16 rfl) (fun q16 => ?_) (fun q16 => absurd (by decide) q16)
  refine AW.run X M_make_d 19 3 rfl ?_
  refine AW.callV (As := [.int (-1), .int (-1)]) X (M_tellFault_m S _ tl (-1) (-1)) cb_M_153 rfl rfl M_tellFault_im M_tellFault_se rfl ⟨Nat.le_of_ble_eq_true rfl, Nat.le_of_ble_eq_true rfl⟩ (Nat.le_of_ble_eq_true rfl) ⟨Nat.le_of_ble_eq_true rfl, Nat.le_of_ble_eq_true rfl⟩ (M_make_d.d 22 rfl) (fun v h' q => ?_)
  obtain ⟨rfl, rfl⟩ := q
  refine AW.eq (h' := x_hM S (mk0 M) tl) rfl ?_
  refine AW.run X M_make_d 23 4 rfl ?_
  refine AW.callV (As := [.int (nI 4), .int (nI i), .int (nI m)]) X hE cb_M_157 rfl rfl M_isTold_im M_isTold_se rfl ⟨Nat.le_of_ble_eq_true rfl, Nat.le_of_ble_eq_true rfl⟩ (Nat.le_of_ble_eq_true rfl) ⟨Nat.le_of_ble_eq_true rfl, Nat.le_of_ble_eq_true rfl⟩ (M_make_d.d 27 rfl) (fun v h' q => ?_)
  obtain ⟨rfl, rfl⟩ := q
  refine AW.if_ne X (M_make_d.d 28 rfl) (fun q28 => ?_) (fun q28 => absurd q28 (by decide))
  refine AW.run X M_make_d 35 1 rfl ?_
  refine AW.if_ne X (M_make_d.d 36 rfl) (fun q36 => ?_) (fun q36 => absurd q36 (by decide))
  refine AW.run X M_make_d 53 1 rfl ?_
  refine AW.run X M_make_d 54 1 rfl ?_
  rw [show (mk0 M).1 5 = nI m0 from h5]
  refine AW.run X M_make_d 55 5 rfl ?_
  refine AW.run X M_make_d 60 1 rfl ?_
  rw [show (mk0 M).1 1 = nI r from hr]
  refine AW.ms8 (j := m0) X rfl h6 (M_make_d.d 61 rfl) ?_
  refine AW.run X M_make_d 62 2 rfl ?_
  have L110 : ∀ (t1 k : Nat) (g : Nat → Int32), k ≤ r → r - k < t1 → (∀ j, j < k → g (8192 * m0 + j) = M.2.1 0 j) → (∀ j, j < 8192 * m0 → g j = M.2.1 9 j) → AW p0v l e0v (ax_R 9 0 0) s0v m0v args below meth c0v VV G 6 (x_hM S (y_A (y_a (mk0 M) 8 m0 (nI r)) 9 g) tl) 0 0 (MQ below (ax_Q VV G (fun v h' => v = some (.int (-1)) ∧ ∃ M', h' = x_hM S M' tl ∧ ME M M' m0 (iZ c) (nI k0))) args s0v 0 0 (fun q => G.bs ≤ q)) 110 [(5, .int (nI k)), (4, .int (nI m0)), (0, .ref 153), (1, .int (nI 4)), (2, .int (nI i)), (3, .int (nI m))] [] := by
    intro t1
    induction t1 with
    | zero => intro k g a1 a2; exact absurd a2 (by omega)
    | succ t1 ih1 =>
      intro k g a1 a2 a3 a4
      refine AW.run X M_make_d 64 2 rfl ?_
      refine AW.run X M_make_d 66 1 rfl ?_
      rw [show (y_A (y_a (mk0 M) 8 m0 (nI r)) 9 g).1 1 = nI r from hr]
      refine AW.icmp_ge X (M_make_d.d 67 rfl) (fun q67 => ?_) (fun q67 => ?_)
      · have hBX : BX M (y_A (y_a (mk0 M) 8 m0 (nI r)) 9 g) m0 r := BX_of (fun j hj => a3 j (by have := cge q67; omega)) a4
        refine AW.run X M_make_d 82 2 rfl ?_
        refine AW.icmp_ne X (M_make_d.d 84 rfl) (fun q84 => absurd rfl q84) (fun q84 => ?_)
        refine AW.run X M_make_d 85 2 rfl ?_
        have hh := M_readWords_m (l := l) (G := G) S (y_A (y_a (mk0 M) 8 m0 (nI r)) 9 g) tl m0 r P0 h6 hr8 (upd_s _ _ _) h0
        rw [hprs (sgM (y_A (y_a (mk0 M) 8 m0 (nI r)) 9 g) m0) (fun j hj => congrArg sgn (a3 j (by have := cge q67; omega)))] at hh
        refine AW.callV (As := [.int (nI m0)]) X hh cb_M_164 rfl rfl M_readWords_im M_readWords_se rfl ⟨Nat.le_of_ble_eq_true rfl, Nat.le_of_ble_eq_true rfl⟩ (Nat.le_of_ble_eq_true rfl) ⟨Nat.le_of_ble_eq_true rfl, Nat.le_of_ble_eq_true rfl⟩ (M_make_d.d 87 rfl) (fun v h' q => ?_)
        obtain ⟨rfl, M3, rfl, hw⟩ := q
        refine AW.run X M_make_d 88 1 rfl ?_
        have he := hw.2.2 (fun z => hcz (by rw [show c = -1 from z]; decide))
        refine AW.run X M_make_d 89 1 rfl ?_
        rw [show M3.1 7 = iZ c from he.1]
        refine AW.if_le X (M_make_d.d 90 rfl) (fun q90 => absurd q90 hcz) (fun q90 => ?_)
        refine AW.run X M_make_d 91 2 rfl ?_
        refine AW.run X M_make_d 93 1 rfl ?_
        rw [show M3.1 7 = iZ c from he.1]
        refine AW.run X M_make_d 94 1 rfl ?_
        refine AW.run X M_make_d 95 1 rfl ?_
        rw [show M3.1 8 = nI k0 from he.2]
        refine AW.callV (As := [.int (iZ c), .int (nI k0)]) X (M_tellFault_m S _ tl (iZ c) (nI k0)) cb_M_153 rfl rfl M_tellFault_im M_tellFault_se rfl ⟨Nat.le_of_ble_eq_true rfl, Nat.le_of_ble_eq_true rfl⟩ (Nat.le_of_ble_eq_true rfl) ⟨Nat.le_of_ble_eq_true rfl, Nat.le_of_ble_eq_true rfl⟩ (M_make_d.d 96 rfl) (fun v h' q => ?_)
        obtain ⟨rfl, rfl⟩ := q
        refine AW.run X M_make_d 97 1 rfl ?_
        exact AW.iret X (M_make_d.d 98 rfl) (Nat.le_of_ble_eq_true rfl) (Nat.le_of_ble_eq_true rfl) ⟨rfl, _, rfl, ME_of (hBX.rw hw.1)⟩
      · have hk1 : k < r := clt q67
        refine AW.run X M_make_d 68 10 rfl ?_
        refine AW.ml0 (j := k) X rfl (by omega) (M_make_d.d 78 rfl) ?_
        rw [show (y_A (y_a (mk0 M) 8 m0 (nI r)) 9 g).2.1 0 k = M.2.1 0 k from rfl]
        refine AW.ms9 (j := 8192 * m0 + k) X (by rw [show ((Int16.ofInt 8192).toInt32 : Int32) * nI m0 = nI (8192 * m0) from pk_mul 8192 m0, nI_add]) (by omega) (M_make_d.d 79 rfl) ?_
        refine AW.run X M_make_d 80 1 rfl ?_
        refine AW.goto X (M_make_d.d 81 rfl) ?_
        rw [nI_o1, y_aA, show vp_nar .byte (M.2.1 0 k) = M.2.1 0 k from hB k hk1]
        exact ih1 (k + 1) _ (by omega) (by omega) (fun j hj => by
          by_cases z : j = k
          · rw [z, upd_s]
          · rw [upd_n (by omega)]; exact a3 j (by omega)) (fun j hj => by rw [upd_n (by omega)]; exact a4 j hj)
  exact AW.eq (h' := x_hM S (y_A (y_a (mk0 M) 8 m0 (nI r)) 9 ((y_a (mk0 M) 8 m0 (nI r)).2.1 9)) tl) (by rw [y_A0]) (L110 (r + 1) 0 _ (by omega) (by omega) (fun j hj => absurd hj (Nat.not_lt_zero j)) (fun j _ => rfl))

