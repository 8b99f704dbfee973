/-! the reference's machine -/
/-- no fault is told -/
def gd (M : x_M) : Prop := M.1 3 = -1 ∧ M.1 4 = -1
theorem gd_i {M : x_M} {k : Nat} {x : Int32} (h : k ≠ 3 ∧ k ≠ 4) (g : gd M) : gd (y_i M k x) := ⟨(y_in M x (Ne.symm h.1)).trans g.1, (y_in M x (Ne.symm h.2)).trans g.2⟩
def MS (M : x_M) (n : Nat) (u : Nat → Int) (t : Nat → Bool) : Prop := M.1 9 = nI n ∧ ∀ j, j < n → M.2.2 3 j = lZ (u j) ∧ M.2.1 13 j = bI (t j)
def MFr (M M' : x_M) : Prop := (∀ k, k ≠ 3 → k ≠ 4 → k ≠ 9 → M'.1 k = M.1 k) ∧ (∀ k, k ≠ 13 → M'.2.1 k = M.2.1 k) ∧ ∀ k, k ≠ 3 → M'.2.2 k = M.2.2 k
theorem MFr.refl (M : x_M) : MFr M M := ⟨fun _ _ _ _ => rfl, fun _ _ => rfl, fun _ _ => rfl⟩
theorem MFr.trans {M M1 M2 : x_M} (h : MFr M M1) (g : MFr M1 M2) : MFr M M2 := ⟨fun k a b c => (g.1 k a b c).trans (h.1 k a b c), fun k a => (g.2.1 k a).trans (h.2.1 k a), fun k a => (g.2.2 k a).trans (h.2.2 k a)⟩
theorem MFr.d (M : x_M) (x : Int32) : MFr M (y_i M 9 x) := ⟨fun _ _ _ a => upd_n a, fun _ _ => rfl, fun _ _ => rfl⟩
theorem MFr.f (M : x_M) (x : Int32) : MFr M (y_i M 3 x) := ⟨fun _ a _ _ => upd_n a, fun _ _ => rfl, fun _ _ => rfl⟩
theorem MFr.p (M : x_M) (x : Int32) : MFr M (y_i M 4 x) := ⟨fun _ _ a _ => upd_n a, fun _ _ => rfl, fun _ _ => rfl⟩
theorem MFr.t (M : x_M) (j : Nat) (x : Int32) : MFr M (y_a M 13 j x) := ⟨fun _ _ _ _ => rfl, fun _ a => va_up_ne _ _ a, fun _ _ => rfl⟩
theorem MFr.s (M : x_M) (j : Nat) (x : Int64) : MFr M (y_l M 3 j x) := ⟨fun _ _ _ _ => rfl, fun _ _ => rfl, fun _ a => va_up_ne _ _ a⟩
theorem MFr.T (M : x_M) (f : Nat → Int32) : MFr M (y_A M 13 f) := ⟨fun _ _ _ _ => rfl, fun _ a => va_up_ne _ _ a, fun _ _ => rfl⟩
theorem MFr.S (M : x_M) (f : Nat → Int64) : MFr M (y_L M 3 f) := ⟨fun _ _ _ _ => rfl, fun _ _ => rfl, fun _ a => va_up_ne _ _ a⟩
/-- the fault is told -/
def bad (M : x_M) (c : Int) : x_M := y_i (y_i M 3 (iZ c)) 4 (M.1 11)
theorem bad_3 (M : x_M) (c : Int) : (bad M c).1 3 = iZ c := (y_in _ _ (by decide)).trans (y_ig _ _ _)
theorem bad_4 (M : x_M) (c : Int) : (bad M c).1 4 = M.1 11 := y_ig _ _ _
theorem bad_F (M : x_M) (c : Int) : MFr M (bad M c) := (MFr.f _ _).trans (MFr.p _ _)
def mp (S : x_S) (tl : List va_E) (M : x_M) (r : pR) (h' : List va_E) : Prop := ∃ M', h' = x_hM S M' tl ∧ MFr M M' ∧ (r.1 = -1 → gd M' ∧ MS M' r.2.1 r.2.2.1 r.2.2.2) ∧ (r.1 ≠ -1 → M'.1 3 = iZ r.1 ∧ M'.1 4 = M.1 11)
theorem mp_bad {S : x_S} {tl : List va_E} {M : x_M} {r : pR} {c : Int} (hr : r.1 = c) (hc : c ≠ -1) : mp S tl M r (x_hM S (bad M c) tl) := ⟨_, rfl, bad_F M c, fun z => absurd (hr.symm.trans z) hc, fun _ => ⟨by rw [bad_3, hr], bad_4 M c⟩⟩
theorem mp_tr {S : x_S} {tl : List va_E} {M M1 : x_M} {r q : pR} {h' : List va_E} (h : MFr M M1) (e : r = q) (z : mp S tl M1 q h') : mp S tl M r h' := by
  subst e
  obtain ⟨M', h1, h2, h3, h4⟩ := z
  exact ⟨M', h1, h.trans h2, h3, fun w => ⟨(h4 w).1, (h4 w).2.trans (h.1 11 (by decide) (by decide) (by decide))⟩⟩
theorem mp_bad' {S : x_S} {tl : List va_E} {M M1 : x_M} {r : pR} {c : Int} (h : MFr M M1) (hr : r.1 = c) (hc : c ≠ -1) : mp S tl M r (x_hM S (bad M1 c) tl) := mp_tr h rfl (mp_bad hr hc)
/-- the codes of the tests -/
def ph (k n : Nat) : Int := if n < k then 9 else -1
def pn1 (n : Nat) (t : Nat → Bool) : Int := if n < 1 then 9 else if t (n - 1) = true then 10 else -1
def pn2 (n : Nat) (t : Nat → Bool) : Int := if n < 2 then 9 else if t (n - 2) = true ∨ t (n - 1) = true then 10 else -1
def pa1 (n : Nat) (u : Nat → Int) (t : Nat → Bool) : Int := if n < 1 then 9 else pwh1 n u t
def pa2 (n : Nat) (u : Nat → Int) (t : Nat → Bool) : Int := if n < 2 then 9 else pwh2 n u t
def mq (S : x_S) (tl : List va_E) (M : x_M) (c : Int) (v : Option Value) (h' : List va_E) : Prop := (c = -1 ∧ v = some (.int (bI true)) ∧ h' = x_hM S M tl) ∨ (c ≠ -1 ∧ v = some (.int (bI false)) ∧ h' = x_hM S (bad M c) tl)
theorem MS.i {M : x_M} {n k : Nat} {v : Nat → Int} {t : Nat → Bool} (h : MS M n v t) (hk : k ≤ n) : M.1 9 - nI k = nI (n - k) := by rw [h.1]; exact pk_sub hk
theorem MS.tk {M : x_M} {n : Nat} {u : Nat → Int} {t : Nat → Bool} (h : MS M n u t) : MS (y_i M 9 (nI (n - 1))) (n - 1) u t := ⟨y_ig _ _ _, fun j hj => h.2 j (by omega)⟩
theorem lrem_0 {a : Int} (ha : zN a) : lg_cmp (lZ a - lZ a / (65536 : Int64) * (65536 : Int64)) (Int64.ofNat ((0 : Fin 2) : Nat)) = 0 ↔ a % 65536 = 0 := by
  have h1 := ha.1
  have h2 := ha.2
  rw [show (65536 : Int64) = lZ 65536 from rfl, lZ_div (zN_L ha) ⟨by decide, by decide⟩ (Or.inr (by decide)), lZ_mul, lZ_sub, lZ_c0]
  have h3 : a - a.tdiv 65536 * 65536 = a.tmod 65536 := by
    have := Int.mul_tdiv_add_tmod a 65536
    omega
  have h4 : (a.tmod 65536).natAbs < 65536 := by
    rw [Int.natAbs_tmod]
    exact Nat.mod_lt _ (by decide)
  rw [h3, lc_eq ⟨by omega, by omega⟩ ⟨by decide, by decide⟩]
  constructor
  · intro z; exact Int.emod_eq_zero_of_dvd (Int.dvd_of_tmod_eq_zero z)
  · intro z; exact Int.tmod_eq_zero_of_dvd (Int.dvd_of_emod_eq_zero z)
theorem MS.put {M : x_M} {n : Nat} {u : Nat → Int} {t : Nat → Bool} {x : Int} {b : Bool} {y : Int64} (h : MS M n u t) (hy : y = lZ (zk x)) : MS (y_i (y_a (y_l M 3 n y) 13 n (vp_nar .boolean (bI b))) 9 (nI n + Int32.ofInt 1)) (n + 1) (va_up u n (zk x)) (va_up t n b) := by
  refine ⟨?_, fun j hj => ?_⟩
  · rw [y_ig, nI_o1]
  · have e3 : (y_i (y_a (y_l M 3 n y) 13 n (vp_nar .boolean (bI b))) 9 (nI n + Int32.ofInt 1)).2.2 3 = vp_updL (M.2.2 3) n y := y_lg M 3 n y
    have e13 : (y_i (y_a (y_l M 3 n y) 13 n (vp_nar .boolean (bI b))) 9 (nI n + Int32.ofInt 1)).2.1 13 = upd (M.2.1 13) n (vp_nar .boolean (bI b)) := y_ag (y_l M 3 n y) 13 n (vp_nar .boolean (bI b))
    rw [e3, e13]
    by_cases e : j = n
    · subst e
      rw [upd_s, va_up_self, va_up_self]
      exact ⟨by rw [hy]; simp [vp_updL], bI_vn b⟩
    · rw [upd_n e, va_up_ne _ _ e, va_up_ne _ _ e]
      refine ⟨?_, (h.2 j (by omega)).2⟩
      rw [← (h.2 j (by omega)).1]
      simp [vp_updL, e]
theorem pg_sh {n k : Nat} {u : Nat → Int} {t : Nat → Bool} {x : Int} {b : Bool} (h1 : 1 ≤ k) (h2 : k ≤ n) (h3 : n ≤ 60) : pgive n u t k x b = pgive (n - k) u t 0 x b := by
  unfold pgive
  rw [if_neg (by omega), if_neg (by omega)]
  rfl
theorem pg_zk {n k : Nat} {u : Nat → Int} {t : Nat → Bool} {x : Int} {b : Bool} : pgive n u t k (zk x) b = pgive n u t k x b := by
  unfold pgive
  rw [zk_id (zk_N x)]
set_option maxHeartbeats 4000000 in
set_option maxRecDepth 100000 in
theorem M_isGoodG_m {l : Launch} {G : ax_G} (S : x_S) (M : x_M) (tl : List va_E) (hG : gd M) :
    AM l VV G M_isGood_y M_isGood_c 1 (some .boolean) 0 0 0 [.ref 153] (x_hM S M tl) (fun v h' => v = some (.int (bI true)) ∧ h' = x_hM S M tl) := by
  refine AM.of (pl := pl_M) (by decide) v_good fl_M_ok kl_M_ok nofun (Nat.le_of_ble_eq_true rfl) ?_
  intro p e s m args below meth c X
  refine AW.run X M_isGood_d 0 3 rfl ?_
  refine AW.icmp_ne X (M_isGood_d.d 3 rfl) (fun q3 => absurd hG.1 q3) (fun q3 => ?_)
  refine AW.run X M_isGood_d 4 1 rfl ?_
  refine AW.goto X (M_isGood_d.d 5 rfl) ?_
  exact AW.zret X n_1 (M_isGood_d.d 7 rfl) (Nat.le_of_ble_eq_true rfl) (Nat.le_of_ble_eq_true rfl) ⟨rfl, rfl⟩

set_option maxHeartbeats 4000000 in
set_option maxRecDepth 100000 in
theorem M_isGoodB_m {l : Launch} {G : ax_G} (S : x_S) (M : x_M) (tl : List va_E) (hG : M.1 3 ≠ -1) :
    AM l VV G M_isGood_y M_isGood_c 1 (some .boolean) 0 0 0 [.ref 153] (x_hM S M tl) (fun v h' => v = some (.int (bI false)) ∧ h' = x_hM S M tl) := by
  refine AM.of (pl := pl_M) (by decide) v_good fl_M_ok kl_M_ok nofun (Nat.le_of_ble_eq_true rfl) ?_
  intro p e s m args below meth c X
  refine AW.run X M_isGood_d 0 3 rfl ?_
  refine AW.icmp_ne X (M_isGood_d.d 3 rfl) (fun q3 => ?_) (fun q3 => absurd q3 hG)
  refine AW.run X M_isGood_d 6 1 rfl ?_
  exact AW.zret X n_0 (M_isGood_d.d 7 rfl) (Nat.le_of_ble_eq_true rfl) (Nat.le_of_ble_eq_true rfl) ⟨rfl, rfl⟩

set_option maxHeartbeats 4000000 in
set_option maxRecDepth 100000 in
theorem M_failG_m {l : Launch} {G : ax_G} (S : x_S) (M : x_M) (tl : List va_E) (k : Int) (hG : gd M) :
    AM l VV G M_fail_y M_fail_c 2 none 1 0 0 [.ref 153, .int (iZ k)] (x_hM S M tl) (fun v h' => v = none ∧ h' = x_hM S (bad M k) tl) := by
  refine AM.of (pl := pl_M) (by decide) v_good fl_M_ok kl_M_ok nofun (Nat.le_of_ble_eq_true rfl) ?_
  intro p e s m args below meth c X
  refine AW.run X M_fail_d 0 3 rfl ?_
  refine AW.icmp_ne X (M_fail_d.d 3 rfl) (fun q3 => absurd hG.1 q3) (fun q3 => ?_)
  refine AW.run X M_fail_d 4 4 rfl ?_
  refine AW.callV (As := [.int (iZ k), .int (M.1 11)]) X (M_tellFault_m S M tl (iZ k) (M.1 11)) cb_M_153 rfl rfl M_tellFault_im M_tellFault_se rfl ⟨Nat.le_of_ble_eq_true rfl, Nat.le_of_ble_eq_true rfl⟩ (Nat.le_of_ble_eq_true rfl) ⟨Nat.le_of_ble_eq_true rfl, Nat.le_of_ble_eq_true rfl⟩ (M_fail_d.d 8 rfl) (fun v h' q => ?_)
  obtain ⟨rfl, rfl⟩ := q
  exact AW.vret X (M_fail_d.d 9 rfl) (Nat.le_of_ble_eq_true rfl) (Nat.le_of_ble_eq_true rfl) ⟨rfl, rfl⟩

set_option maxHeartbeats 4000000 in
set_option maxRecDepth 100000 in
theorem M_has1_m {l : Launch} {G : ax_G} (S : x_S) (M : x_M) (tl : List va_E) (n : Nat) (u : Nat → Int) (t : Nat → Bool) (hG : gd M) (hW : WS n u t) (hM : MS M n u t) :
    AM l VV G M_has_y M_has_c 2 (some .boolean) 2 0 0 [.ref 153, .int (nI 1)] (x_hM S M tl) (fun v h' => mq S tl M (ph 1 n) v h') := by
  refine AM.of (pl := pl_M) (by decide) v_good fl_M_ok kl_M_ok nofun (Nat.le_of_ble_eq_true rfl) ?_
  intro p e s m args below meth c X
  refine AW.run X M_has_d 0 1 rfl ?_
  refine AW.callV (As := []) X (M_isGoodG_m S M tl hG) cb_M_349 rfl rfl M_isGood_im M_isGood_se rfl ⟨Nat.le_of_ble_eq_true rfl, Nat.le_of_ble_eq_true rfl⟩ (Nat.le_of_ble_eq_true rfl) ⟨Nat.le_of_ble_eq_true rfl, Nat.le_of_ble_eq_true rfl⟩ (M_has_d.d 1 rfl) (fun v h' q => ?_)
  obtain ⟨rfl, rfl⟩ := q
  refine AW.if_eq X (M_has_d.d 2 rfl) (fun q2 => absurd q2 (by decide)) (fun q2 => ?_)
  refine AW.run X M_has_d 3 3 rfl ?_
  refine AW.icmp_ge X (M_has_d.d 6 rfl) (fun q6 => ?_) (fun q6 => ?_)
  · refine AW.run X M_has_d 10 1 rfl ?_
    refine AW.callV (As := []) X (M_isGoodG_m S M tl hG) cb_M_349 rfl rfl M_isGood_im M_isGood_se rfl ⟨Nat.le_of_ble_eq_true rfl, Nat.le_of_ble_eq_true rfl⟩ (Nat.le_of_ble_eq_true rfl) ⟨Nat.le_of_ble_eq_true rfl, Nat.le_of_ble_eq_true rfl⟩ (M_has_d.d 11 rfl) (fun v h' q => ?_)
    obtain ⟨rfl, rfl⟩ := q
    exact AW.zret X (bI_nar _) (M_has_d.d 12 rfl) (Nat.le_of_ble_eq_true rfl) (Nat.le_of_ble_eq_true rfl) (Or.inl ⟨by unfold ph; rw [if_neg (by have := (nI_leI (a := 1) (b := n) (by decide) (by have := hW.1; omega)).mp (by rw [← hM.1]; exact q6); omega)], rfl, rfl⟩)
  · refine AW.run X M_has_d 7 2 rfl ?_
    refine AW.callV (As := [.int (iZ 9)]) X (M_failG_m S M tl 9 hG) cb_M_356 rfl rfl M_fail_im M_fail_se rfl ⟨Nat.le_of_ble_eq_true rfl, Nat.le_of_ble_eq_true rfl⟩ (Nat.le_of_ble_eq_true rfl) ⟨Nat.le_of_ble_eq_true rfl, Nat.le_of_ble_eq_true rfl⟩ (M_has_d.d 9 rfl) (fun v h' q => ?_)
    obtain ⟨rfl, rfl⟩ := q
    refine AW.run X M_has_d 10 1 rfl ?_
    refine AW.callV (As := []) X (M_isGoodB_m S (bad M 9) tl (by rw [bad_3]; decide)) cb_M_349 rfl rfl M_isGood_im M_isGood_se rfl ⟨Nat.le_of_ble_eq_true rfl, Nat.le_of_ble_eq_true rfl⟩ (Nat.le_of_ble_eq_true rfl) ⟨Nat.le_of_ble_eq_true rfl, Nat.le_of_ble_eq_true rfl⟩ (M_has_d.d 11 rfl) (fun v h' q => ?_)
    obtain ⟨rfl, rfl⟩ := q
    exact AW.zret X (bI_nar _) (M_has_d.d 12 rfl) (Nat.le_of_ble_eq_true rfl) (Nat.le_of_ble_eq_true rfl) (by
      have hp : ph 1 n = 9 := by unfold ph; rw [if_pos (by have := mt (nI_leI (a := 1) (b := n) (by decide) (by have := hW.1; omega)).mpr (fun z => q6 (by rw [hM.1]; exact z)); omega)]
      refine Or.inr ⟨by rw [hp]; decide, rfl, by rw [hp]⟩)

set_option maxHeartbeats 4000000 in
set_option maxRecDepth 100000 in
theorem M_has2_m {l : Launch} {G : ax_G} (S : x_S) (M : x_M) (tl : List va_E) (n : Nat) (u : Nat → Int) (t : Nat → Bool) (hG : gd M) (hW : WS n u t) (hM : MS M n u t) :
    AM l VV G M_has_y M_has_c 2 (some .boolean) 2 0 0 [.ref 153, .int (nI 2)] (x_hM S M tl) (fun v h' => mq S tl M (ph 2 n) v h') := by
  refine AM.of (pl := pl_M) (by decide) v_good fl_M_ok kl_M_ok nofun (Nat.le_of_ble_eq_true rfl) ?_
  intro p e s m args below meth c X
  refine AW.run X M_has_d 0 1 rfl ?_
  refine AW.callV (As := []) X (M_isGoodG_m S M tl hG) cb_M_349 rfl rfl M_isGood_im M_isGood_se rfl ⟨Nat.le_of_ble_eq_true rfl, Nat.le_of_ble_eq_true rfl⟩ (Nat.le_of_ble_eq_true rfl) ⟨Nat.le_of_ble_eq_true rfl, Nat.le_of_ble_eq_true rfl⟩ (M_has_d.d 1 rfl) (fun v h' q => ?_)
  obtain ⟨rfl, rfl⟩ := q
  refine AW.if_eq X (M_has_d.d 2 rfl) (fun q2 => absurd q2 (by decide)) (fun q2 => ?_)
  refine AW.run X M_has_d 3 3 rfl ?_
  refine AW.icmp_ge X (M_has_d.d 6 rfl) (fun q6 => ?_) (fun q6 => ?_)
  · refine AW.run X M_has_d 10 1 rfl ?_
    refine AW.callV (As := []) X (M_isGoodG_m S M tl hG) cb_M_349 rfl rfl M_isGood_im M_isGood_se rfl ⟨Nat.le_of_ble_eq_true rfl, Nat.le_of_ble_eq_true rfl⟩ (Nat.le_of_ble_eq_true rfl) ⟨Nat.le_of_ble_eq_true rfl, Nat.le_of_ble_eq_true rfl⟩ (M_has_d.d 11 rfl) (fun v h' q => ?_)
    obtain ⟨rfl, rfl⟩ := q
    exact AW.zret X (bI_nar _) (M_has_d.d 12 rfl) (Nat.le_of_ble_eq_true rfl) (Nat.le_of_ble_eq_true rfl) (Or.inl ⟨by unfold ph; rw [if_neg (by have := (nI_leI (a := 2) (b := n) (by decide) (by have := hW.1; omega)).mp (by rw [← hM.1]; exact q6); omega)], rfl, rfl⟩)
  · refine AW.run X M_has_d 7 2 rfl ?_
    refine AW.callV (As := [.int (iZ 9)]) X (M_failG_m S M tl 9 hG) cb_M_356 rfl rfl M_fail_im M_fail_se rfl ⟨Nat.le_of_ble_eq_true rfl, Nat.le_of_ble_eq_true rfl⟩ (Nat.le_of_ble_eq_true rfl) ⟨Nat.le_of_ble_eq_true rfl, Nat.le_of_ble_eq_true rfl⟩ (M_has_d.d 9 rfl) (fun v h' q => ?_)
    obtain ⟨rfl, rfl⟩ := q
    refine AW.run X M_has_d 10 1 rfl ?_
    refine AW.callV (As := []) X (M_isGoodB_m S (bad M 9) tl (by rw [bad_3]; decide)) cb_M_349 rfl rfl M_isGood_im M_isGood_se rfl ⟨Nat.le_of_ble_eq_true rfl, Nat.le_of_ble_eq_true rfl⟩ (Nat.le_of_ble_eq_true rfl) ⟨Nat.le_of_ble_eq_true rfl, Nat.le_of_ble_eq_true rfl⟩ (M_has_d.d 11 rfl) (fun v h' q => ?_)
    obtain ⟨rfl, rfl⟩ := q
    exact AW.zret X (bI_nar _) (M_has_d.d 12 rfl) (Nat.le_of_ble_eq_true rfl) (Nat.le_of_ble_eq_true rfl) (by
      have hp : ph 2 n = 9 := by unfold ph; rw [if_pos (by have := mt (nI_leI (a := 2) (b := n) (by decide) (by have := hW.1; omega)).mpr (fun z => q6 (by rw [hM.1]; exact z)); omega)]
      refine Or.inr ⟨by rw [hp]; decide, rfl, by rw [hp]⟩)

theorem ph_v (k n : Nat) : (ph k n = 9 ∧ n < k) ∨ (ph k n = -1 ∧ k ≤ n) := by
  unfold ph
  by_cases h : n < k
  · rw [if_pos h]; exact Or.inl ⟨rfl, h⟩
  · rw [if_neg h]; exact Or.inr ⟨rfl, by omega⟩
theorem ph_n {k n : Nat} (h : ph k n ≠ -1) : ph k n = 9 ∧ n < k := (ph_v k n).elim id (fun z => absurd z.1 h)
theorem ph_o {k n : Nat} (h : ph k n = -1) : k ≤ n := (ph_v k n).elim (fun z => absurd (z.1.symm.trans h) (by decide)) (fun z => z.2)
set_option maxHeartbeats 4000000 in
set_option maxRecDepth 100000 in
theorem M_areNumbers1_m {l : Launch} {G : ax_G} (S : x_S) (M : x_M) (tl : List va_E) (n : Nat) (u : Nat → Int) (t : Nat → Bool) (hG : gd M) (hW : WS n u t) (hM : MS M n u t) :
    AM l VV G M_areNumbers_y M_areNumbers_c 4 (some .boolean) 3 0 0 [.ref 153, .int (nI 1)] (x_hM S M tl) (fun v h' => mq S tl M (pn1 n t) v h') := by
  refine AM.of (pl := pl_M) (by decide) v_good fl_M_ok kl_M_ok nofun (Nat.le_of_ble_eq_true rfl) ?_
  intro p e s m args below meth c X
  refine AW.run X M_areNumbers_d 0 2 rfl ?_
  refine AW.callV (As := [.int (nI 1)]) X (M_has1_m S M tl n u t hG hW hM) cb_M_363 rfl rfl M_has_im M_has_se rfl ⟨Nat.le_of_ble_eq_true rfl, Nat.le_of_ble_eq_true rfl⟩ (Nat.le_of_ble_eq_true rfl) ⟨Nat.le_of_ble_eq_true rfl, Nat.le_of_ble_eq_true rfl⟩ (M_areNumbers_d.d 2 rfl) (fun v h' q => ?_)
  rcases q with ⟨hc, rfl, rfl⟩ | ⟨hc, rfl, rfl⟩
  · have hn := ph_o hc
    refine AW.run X M_areNumbers_d 3 5 rfl ?_
    refine AW.icmp_gt X (M_areNumbers_d.d 8 rfl) (fun q8 => absurd q8 (by decide)) (fun q8 => ?_)
    refine AW.run X M_areNumbers_d 9 1 rfl ?_
    refine AW.if_eq X (M_areNumbers_d.d 10 rfl) (fun q10 => absurd q10 (by decide)) (fun q10 => ?_)
    refine AW.run X M_areNumbers_d 11 6 rfl ?_
    refine AW.ml13 (j := n - 1) X (hM.i (k := 1) (by omega)) (by have := hW.1; omega) (M_areNumbers_d.d 17 rfl) ?_
    rw [(hM.2 (n - 1) (by omega)).2]
    refine AW.if_ne X (M_areNumbers_d.d 18 rfl) (fun q18 => ?_) (fun q18 => ?_)
    · refine AW.run X M_areNumbers_d 21 3 rfl ?_
      refine AW.goto X (M_areNumbers_d.d 24 rfl) ?_
      refine AW.run X M_areNumbers_d 6 2 rfl ?_
      refine AW.icmp_gt X (M_areNumbers_d.d 8 rfl) (fun q8 => ?_) (fun q8 => absurd q8 (by decide))
      refine AW.run X M_areNumbers_d 25 1 rfl ?_
      refine AW.callV (As := []) X (M_isGoodG_m S M tl hG) cb_M_349 rfl rfl M_isGood_im M_isGood_se rfl ⟨Nat.le_of_ble_eq_true rfl, Nat.le_of_ble_eq_true rfl⟩ (Nat.le_of_ble_eq_true rfl) ⟨Nat.le_of_ble_eq_true rfl, Nat.le_of_ble_eq_true rfl⟩ (M_areNumbers_d.d 26 rfl) (fun v h' q => ?_)
      obtain ⟨rfl, rfl⟩ := q
      refine AW.if_eq X (M_areNumbers_d.d 27 rfl) (fun q27 => absurd q27 (by decide)) (fun q27 => ?_)
      refine AW.run X M_areNumbers_d 28 1 rfl ?_
      refine AW.if_ne X (M_areNumbers_d.d 29 rfl) (fun q29 => absurd q29 (by decide)) (fun q29 => ?_)
      refine AW.run X M_areNumbers_d 30 2 rfl ?_
      refine AW.callV (As := [.int (iZ 10)]) X (M_failG_m S M tl 10 hG) cb_M_356 rfl rfl M_fail_im M_fail_se rfl ⟨Nat.le_of_ble_eq_true rfl, Nat.le_of_ble_eq_true rfl⟩ (Nat.le_of_ble_eq_true rfl) ⟨Nat.le_of_ble_eq_true rfl, Nat.le_of_ble_eq_true rfl⟩ (M_areNumbers_d.d 32 rfl) (fun v h' q => ?_)
      obtain ⟨rfl, rfl⟩ := q
      refine AW.run X M_areNumbers_d 33 1 rfl ?_
      refine AW.callV (As := []) X (M_isGoodB_m S (bad M 10) tl (by rw [bad_3]; decide)) cb_M_349 rfl rfl M_isGood_im M_isGood_se rfl ⟨Nat.le_of_ble_eq_true rfl, Nat.le_of_ble_eq_true rfl⟩ (Nat.le_of_ble_eq_true rfl) ⟨Nat.le_of_ble_eq_true rfl, Nat.le_of_ble_eq_true rfl⟩ (M_areNumbers_d.d 34 rfl) (fun v h' q => ?_)
      obtain ⟨rfl, rfl⟩ := q
      exact AW.zret X (bI_nar _) (M_areNumbers_d.d 35 rfl) (Nat.le_of_ble_eq_true rfl) (Nat.le_of_ble_eq_true rfl) (by
        have hp : pn1 n t = 10 := by unfold pn1; rw [if_neg (by omega), if_pos (Bool.of_not_eq_false (fun z => q18 ((bI_0 _).mpr z)))]
        exact Or.inr ⟨by rw [hp]; decide, rfl, by rw [hp]⟩)
    · refine AW.run X M_areNumbers_d 19 1 rfl ?_
      refine AW.goto X (M_areNumbers_d.d 20 rfl) ?_
      refine AW.run X M_areNumbers_d 22 2 rfl ?_
      refine AW.goto X (M_areNumbers_d.d 24 rfl) ?_
      refine AW.run X M_areNumbers_d 6 2 rfl ?_
      refine AW.icmp_gt X (M_areNumbers_d.d 8 rfl) (fun q8 => ?_) (fun q8 => absurd q8 (by decide))
      refine AW.run X M_areNumbers_d 25 1 rfl ?_
      refine AW.callV (As := []) X (M_isGoodG_m S M tl hG) cb_M_349 rfl rfl M_isGood_im M_isGood_se rfl ⟨Nat.le_of_ble_eq_true rfl, Nat.le_of_ble_eq_true rfl⟩ (Nat.le_of_ble_eq_true rfl) ⟨Nat.le_of_ble_eq_true rfl, Nat.le_of_ble_eq_true rfl⟩ (M_areNumbers_d.d 26 rfl) (fun v h' q => ?_)
      obtain ⟨rfl, rfl⟩ := q
      refine AW.if_eq X (M_areNumbers_d.d 27 rfl) (fun q27 => absurd q27 (by decide)) (fun q27 => ?_)
      refine AW.run X M_areNumbers_d 28 1 rfl ?_
      refine AW.if_ne X (M_areNumbers_d.d 29 rfl) (fun q29 => ?_) (fun q29 => absurd q29 (by decide))
      refine AW.run X M_areNumbers_d 33 1 rfl ?_
      refine AW.callV (As := []) X (M_isGoodG_m S M tl hG) cb_M_349 rfl rfl M_isGood_im M_isGood_se rfl ⟨Nat.le_of_ble_eq_true rfl, Nat.le_of_ble_eq_true rfl⟩ (Nat.le_of_ble_eq_true rfl) ⟨Nat.le_of_ble_eq_true rfl, Nat.le_of_ble_eq_true rfl⟩ (M_areNumbers_d.d 34 rfl) (fun v h' q => ?_)
      obtain ⟨rfl, rfl⟩ := q
      exact AW.zret X (bI_nar _) (M_areNumbers_d.d 35 rfl) (Nat.le_of_ble_eq_true rfl) (Nat.le_of_ble_eq_true rfl) (by
        have hp : pn1 n t = -1 := by unfold pn1; rw [if_neg (by omega), if_neg (by rw [bI_f0 q18]; decide)]
        exact Or.inl ⟨hp, rfl, rfl⟩)
  · have hb := ph_n hc
    rw [hb.1]
    refine AW.run X M_areNumbers_d 3 5 rfl ?_
    refine AW.icmp_gt X (M_areNumbers_d.d 8 rfl) (fun q8 => absurd q8 (by decide)) (fun q8 => ?_)
    refine AW.run X M_areNumbers_d 9 1 rfl ?_
    refine AW.if_eq X (M_areNumbers_d.d 10 rfl) (fun q10 => ?_) (fun q10 => absurd q10 (by decide))
    refine AW.run X M_areNumbers_d 25 1 rfl ?_
    refine AW.callV (As := []) X (M_isGoodB_m S (bad M 9) tl (by rw [bad_3]; decide)) cb_M_349 rfl rfl M_isGood_im M_isGood_se rfl ⟨Nat.le_of_ble_eq_true rfl, Nat.le_of_ble_eq_true rfl⟩ (Nat.le_of_ble_eq_true rfl) ⟨Nat.le_of_ble_eq_true rfl, Nat.le_of_ble_eq_true rfl⟩ (M_areNumbers_d.d 26 rfl) (fun v h' q => ?_)
    obtain ⟨rfl, rfl⟩ := q
    refine AW.if_eq X (M_areNumbers_d.d 27 rfl) (fun q27 => ?_) (fun q27 => absurd q27 (by decide))
    refine AW.run X M_areNumbers_d 33 1 rfl ?_
    refine AW.callV (As := []) X (M_isGoodB_m S (bad M 9) tl (by rw [bad_3]; decide)) cb_M_349 rfl rfl M_isGood_im M_isGood_se rfl ⟨Nat.le_of_ble_eq_true rfl, Nat.le_of_ble_eq_true rfl⟩ (Nat.le_of_ble_eq_true rfl) ⟨Nat.le_of_ble_eq_true rfl, Nat.le_of_ble_eq_true rfl⟩ (M_areNumbers_d.d 34 rfl) (fun v h' q => ?_)
    obtain ⟨rfl, rfl⟩ := q
    exact AW.zret X (bI_nar _) (M_areNumbers_d.d 35 rfl) (Nat.le_of_ble_eq_true rfl) (Nat.le_of_ble_eq_true rfl) (by
      have hp : pn1 n t = 9 := by unfold pn1; rw [if_pos (by omega)]
      exact Or.inr ⟨by rw [hp]; decide, rfl, by rw [hp]⟩)

theorem mt_e {S : x_S} {tl : List va_E} {M : x_M} {c d : Int} (h : c = d) (hd : d ≠ -1) : mq S tl M c (some (.int (bI false))) (x_hM S (bad M d) tl) := Or.inr ⟨by rw [h]; exact hd, rfl, by rw [h]⟩
set_option maxHeartbeats 4000000 in
set_option maxRecDepth 100000 in
theorem M_areNumbers2_m {l : Launch} {G : ax_G} (S : x_S) (M : x_M) (tl : List va_E) (n : Nat) (u : Nat → Int) (t : Nat → Bool) (hG : gd M) (hW : WS n u t) (hM : MS M n u t) :
    AM l VV G M_areNumbers_y M_areNumbers_c 4 (some .boolean) 3 0 0 [.ref 153, .int (nI 2)] (x_hM S M tl) (fun v h' => mq S tl M (pn2 n t) v h') := by
  refine AM.of (pl := pl_M) (by decide) v_good fl_M_ok kl_M_ok nofun (Nat.le_of_ble_eq_true rfl) ?_
  intro p e s m args below meth c X
  refine AW.run X M_areNumbers_d 0 2 rfl ?_
  refine AW.callV (As := [.int (nI 2)]) X (M_has2_m S M tl n u t hG hW hM) cb_M_363 rfl rfl M_has_im M_has_se rfl ⟨Nat.le_of_ble_eq_true rfl, Nat.le_of_ble_eq_true rfl⟩ (Nat.le_of_ble_eq_true rfl) ⟨Nat.le_of_ble_eq_true rfl, Nat.le_of_ble_eq_true rfl⟩ (M_areNumbers_d.d 2 rfl) (fun v h' q => ?_)
  rcases q with ⟨hc, rfl, rfl⟩ | ⟨hc, rfl, rfl⟩
  · have hn := ph_o hc
    refine AW.run X M_areNumbers_d 3 5 rfl ?_
    refine AW.icmp_gt X (M_areNumbers_d.d 8 rfl) (fun q8 => absurd q8 (by decide)) (fun q8 => ?_)
    refine AW.run X M_areNumbers_d 9 1 rfl ?_
    refine AW.if_eq X (M_areNumbers_d.d 10 rfl) (fun q10 => absurd q10 (by decide)) (fun q10 => ?_)
    refine AW.run X M_areNumbers_d 11 6 rfl ?_
    refine AW.ml13 (j := n - 1) X (hM.i (k := 1) (by omega)) (by have := hW.1; omega) (M_areNumbers_d.d 17 rfl) ?_
    rw [(hM.2 (n - 1) (by omega)).2]
    refine AW.if_ne X (M_areNumbers_d.d 18 rfl) (fun qa => ?_) (fun qa => ?_)
    · refine AW.run X M_areNumbers_d 21 3 rfl ?_
      refine AW.goto X (M_areNumbers_d.d 24 rfl) ?_
      refine AW.run X M_areNumbers_d 6 2 rfl ?_
      refine AW.icmp_gt X (M_areNumbers_d.d 8 rfl) (fun q8 => absurd q8 (by decide)) (fun q8 => ?_)
      refine AW.run X M_areNumbers_d 9 1 rfl ?_
      refine AW.if_eq X (M_areNumbers_d.d 10 rfl) (fun q10 => ?_) (fun q10 => absurd q10 (by decide))
      refine AW.run X M_areNumbers_d 25 1 rfl ?_
      refine AW.callV (As := []) X (M_isGoodG_m S M tl hG) cb_M_349 rfl rfl M_isGood_im M_isGood_se rfl ⟨Nat.le_of_ble_eq_true rfl, Nat.le_of_ble_eq_true rfl⟩ (Nat.le_of_ble_eq_true rfl) ⟨Nat.le_of_ble_eq_true rfl, Nat.le_of_ble_eq_true rfl⟩ (M_areNumbers_d.d 26 rfl) (fun v h' q => ?_)
      obtain ⟨rfl, rfl⟩ := q
      refine AW.if_eq X (M_areNumbers_d.d 27 rfl) (fun q27 => absurd q27 (by decide)) (fun q27 => ?_)
      refine AW.run X M_areNumbers_d 28 1 rfl ?_
      refine AW.if_ne X (M_areNumbers_d.d 29 rfl) (fun q29 => absurd q29 (by decide)) (fun q29 => ?_)
      refine AW.run X M_areNumbers_d 30 2 rfl ?_
      refine AW.callV (As := [.int (iZ 10)]) X (M_failG_m S M tl 10 hG) cb_M_356 rfl rfl M_fail_im M_fail_se rfl ⟨Nat.le_of_ble_eq_true rfl, Nat.le_of_ble_eq_true rfl⟩ (Nat.le_of_ble_eq_true rfl) ⟨Nat.le_of_ble_eq_true rfl, Nat.le_of_ble_eq_true rfl⟩ (M_areNumbers_d.d 32 rfl) (fun v h' q => ?_)
      obtain ⟨rfl, rfl⟩ := q
      refine AW.run X M_areNumbers_d 33 1 rfl ?_
      refine AW.callV (As := []) X (M_isGoodB_m S (bad M 10) tl (by rw [bad_3]; decide)) cb_M_349 rfl rfl M_isGood_im M_isGood_se rfl ⟨Nat.le_of_ble_eq_true rfl, Nat.le_of_ble_eq_true rfl⟩ (Nat.le_of_ble_eq_true rfl) ⟨Nat.le_of_ble_eq_true rfl, Nat.le_of_ble_eq_true rfl⟩ (M_areNumbers_d.d 34 rfl) (fun v h' q => ?_)
      obtain ⟨rfl, rfl⟩ := q
      exact AW.zret X (bI_nar _) (M_areNumbers_d.d 35 rfl) (Nat.le_of_ble_eq_true rfl) (Nat.le_of_ble_eq_true rfl) (mt_e (by unfold pn2; rw [if_neg (by omega), if_pos (Or.inr (Bool.of_not_eq_false (fun z => qa ((bI_0 _).mpr z))))]) (by decide))
    · refine AW.run X M_areNumbers_d 19 1 rfl ?_
      refine AW.goto X (M_areNumbers_d.d 20 rfl) ?_
      refine AW.run X M_areNumbers_d 22 2 rfl ?_
      refine AW.goto X (M_areNumbers_d.d 24 rfl) ?_
      refine AW.run X M_areNumbers_d 6 2 rfl ?_
      refine AW.icmp_gt X (M_areNumbers_d.d 8 rfl) (fun q8 => absurd q8 (by decide)) (fun q8 => ?_)
      refine AW.run X M_areNumbers_d 9 1 rfl ?_
      refine AW.if_eq X (M_areNumbers_d.d 10 rfl) (fun q10 => absurd q10 (by decide)) (fun q10 => ?_)
      refine AW.run X M_areNumbers_d 11 6 rfl ?_
      refine AW.ml13 (j := n - 2) X (hM.i (k := 2) (by omega)) (by have := hW.1; omega) (M_areNumbers_d.d 17 rfl) ?_
      rw [(hM.2 (n - 2) (by omega)).2]
      refine AW.if_ne X (M_areNumbers_d.d 18 rfl) (fun qb => ?_) (fun qb => ?_)
      · refine AW.run X M_areNumbers_d 21 3 rfl ?_
        refine AW.goto X (M_areNumbers_d.d 24 rfl) ?_
        refine AW.run X M_areNumbers_d 6 2 rfl ?_
        refine AW.icmp_gt X (M_areNumbers_d.d 8 rfl) (fun q8 => ?_) (fun q8 => absurd q8 (by decide))
        refine AW.run X M_areNumbers_d 25 1 rfl ?_
        refine AW.callV (As := []) X (M_isGoodG_m S M tl hG) cb_M_349 rfl rfl M_isGood_im M_isGood_se rfl ⟨Nat.le_of_ble_eq_true rfl, Nat.le_of_ble_eq_true rfl⟩ (Nat.le_of_ble_eq_true rfl) ⟨Nat.le_of_ble_eq_true rfl, Nat.le_of_ble_eq_true rfl⟩ (M_areNumbers_d.d 26 rfl) (fun v h' q => ?_)
        obtain ⟨rfl, rfl⟩ := q
        refine AW.if_eq X (M_areNumbers_d.d 27 rfl) (fun q27 => absurd q27 (by decide)) (fun q27 => ?_)
        refine AW.run X M_areNumbers_d 28 1 rfl ?_
        refine AW.if_ne X (M_areNumbers_d.d 29 rfl) (fun q29 => absurd q29 (by decide)) (fun q29 => ?_)
        refine AW.run X M_areNumbers_d 30 2 rfl ?_
        refine AW.callV (As := [.int (iZ 10)]) X (M_failG_m S M tl 10 hG) cb_M_356 rfl rfl M_fail_im M_fail_se rfl ⟨Nat.le_of_ble_eq_true rfl, Nat.le_of_ble_eq_true rfl⟩ (Nat.le_of_ble_eq_true rfl) ⟨Nat.le_of_ble_eq_true rfl, Nat.le_of_ble_eq_true rfl⟩ (M_areNumbers_d.d 32 rfl) (fun v h' q => ?_)
        obtain ⟨rfl, rfl⟩ := q
        refine AW.run X M_areNumbers_d 33 1 rfl ?_
        refine AW.callV (As := []) X (M_isGoodB_m S (bad M 10) tl (by rw [bad_3]; decide)) cb_M_349 rfl rfl M_isGood_im M_isGood_se rfl ⟨Nat.le_of_ble_eq_true rfl, Nat.le_of_ble_eq_true rfl⟩ (Nat.le_of_ble_eq_true rfl) ⟨Nat.le_of_ble_eq_true rfl, Nat.le_of_ble_eq_true rfl⟩ (M_areNumbers_d.d 34 rfl) (fun v h' q => ?_)
        obtain ⟨rfl, rfl⟩ := q
        exact AW.zret X (bI_nar _) (M_areNumbers_d.d 35 rfl) (Nat.le_of_ble_eq_true rfl) (Nat.le_of_ble_eq_true rfl) (mt_e (by unfold pn2; rw [if_neg (by omega), if_pos (Or.inl (Bool.of_not_eq_false (fun z => qb ((bI_0 _).mpr z))))]) (by decide))
      · refine AW.run X M_areNumbers_d 19 1 rfl ?_
        refine AW.goto X (M_areNumbers_d.d 20 rfl) ?_
        refine AW.run X M_areNumbers_d 22 2 rfl ?_
        refine AW.goto X (M_areNumbers_d.d 24 rfl) ?_
        refine AW.run X M_areNumbers_d 6 2 rfl ?_
        refine AW.icmp_gt X (M_areNumbers_d.d 8 rfl) (fun q8 => ?_) (fun q8 => absurd q8 (by decide))
        refine AW.run X M_areNumbers_d 25 1 rfl ?_
        refine AW.callV (As := []) X (M_isGoodG_m S M tl hG) cb_M_349 rfl rfl M_isGood_im M_isGood_se rfl ⟨Nat.le_of_ble_eq_true rfl, Nat.le_of_ble_eq_true rfl⟩ (Nat.le_of_ble_eq_true rfl) ⟨Nat.le_of_ble_eq_true rfl, Nat.le_of_ble_eq_true rfl⟩ (M_areNumbers_d.d 26 rfl) (fun v h' q => ?_)
        obtain ⟨rfl, rfl⟩ := q
        refine AW.if_eq X (M_areNumbers_d.d 27 rfl) (fun q27 => absurd q27 (by decide)) (fun q27 => ?_)
        refine AW.run X M_areNumbers_d 28 1 rfl ?_
        refine AW.if_ne X (M_areNumbers_d.d 29 rfl) (fun q29 => ?_) (fun q29 => absurd q29 (by decide))
        refine AW.run X M_areNumbers_d 33 1 rfl ?_
        refine AW.callV (As := []) X (M_isGoodG_m S M tl hG) cb_M_349 rfl rfl M_isGood_im M_isGood_se rfl ⟨Nat.le_of_ble_eq_true rfl, Nat.le_of_ble_eq_true rfl⟩ (Nat.le_of_ble_eq_true rfl) ⟨Nat.le_of_ble_eq_true rfl, Nat.le_of_ble_eq_true rfl⟩ (M_areNumbers_d.d 34 rfl) (fun v h' q => ?_)
        obtain ⟨rfl, rfl⟩ := q
        exact AW.zret X (bI_nar _) (M_areNumbers_d.d 35 rfl) (Nat.le_of_ble_eq_true rfl) (Nat.le_of_ble_eq_true rfl) (Or.inl ⟨by unfold pn2; rw [if_neg (by omega), if_neg (fun z => z.elim (fun z => by rw [bI_f0 qb] at z; cases z) (fun z => by rw [bI_f0 qa] at z; cases z))], rfl, rfl⟩)
  · have hb := ph_n hc
    rw [hb.1]
    refine AW.run X M_areNumbers_d 3 5 rfl ?_
    refine AW.icmp_gt X (M_areNumbers_d.d 8 rfl) (fun q8 => absurd q8 (by decide)) (fun q8 => ?_)
    refine AW.run X M_areNumbers_d 9 1 rfl ?_
    refine AW.if_eq X (M_areNumbers_d.d 10 rfl) (fun q10 => ?_) (fun q10 => absurd q10 (by decide))
    refine AW.run X M_areNumbers_d 25 1 rfl ?_
    refine AW.callV (As := []) X (M_isGoodB_m S (bad M 9) tl (by rw [bad_3]; decide)) cb_M_349 rfl rfl M_isGood_im M_isGood_se rfl ⟨Nat.le_of_ble_eq_true rfl, Nat.le_of_ble_eq_true rfl⟩ (Nat.le_of_ble_eq_true rfl) ⟨Nat.le_of_ble_eq_true rfl, Nat.le_of_ble_eq_true rfl⟩ (M_areNumbers_d.d 26 rfl) (fun v h' q => ?_)
    obtain ⟨rfl, rfl⟩ := q
    refine AW.if_eq X (M_areNumbers_d.d 27 rfl) (fun q27 => ?_) (fun q27 => absurd q27 (by decide))
    refine AW.run X M_areNumbers_d 33 1 rfl ?_
    refine AW.callV (As := []) X (M_isGoodB_m S (bad M 9) tl (by rw [bad_3]; decide)) cb_M_349 rfl rfl M_isGood_im M_isGood_se rfl ⟨Nat.le_of_ble_eq_true rfl, Nat.le_of_ble_eq_true rfl⟩ (Nat.le_of_ble_eq_true rfl) ⟨Nat.le_of_ble_eq_true rfl, Nat.le_of_ble_eq_true rfl⟩ (M_areNumbers_d.d 34 rfl) (fun v h' q => ?_)
    obtain ⟨rfl, rfl⟩ := q
    exact AW.zret X (bI_nar _) (M_areNumbers_d.d 35 rfl) (Nat.le_of_ble_eq_true rfl) (Nat.le_of_ble_eq_true rfl) (by
      have hp : pn2 n t = 9 := by unfold pn2; rw [if_pos (by omega)]
      exact Or.inr ⟨by rw [hp]; decide, rfl, by rw [hp]⟩)

theorem pn1_v (n : Nat) (t : Nat → Bool) : pn1 n t = 9 ∧ n < 1 ∨ pn1 n t = 10 ∧ 1 ≤ n ∧ t (n - 1) = true ∨ pn1 n t = -1 ∧ 1 ≤ n ∧ t (n - 1) = false := by
  unfold pn1
  by_cases h : n < 1
  · rw [if_pos h]; exact Or.inl ⟨rfl, h⟩
  · rw [if_neg h]
    cases ht : t (n - 1) with
    | true => exact Or.inr (Or.inl ⟨rfl, by omega, rfl⟩)
    | false => exact Or.inr (Or.inr ⟨rfl, by omega, rfl⟩)
theorem pn2_v (n : Nat) (t : Nat → Bool) : pn2 n t = 9 ∧ n < 2 ∨ pn2 n t = 10 ∧ 2 ≤ n ∧ (t (n - 2) = true ∨ t (n - 1) = true) ∨ pn2 n t = -1 ∧ 2 ≤ n ∧ t (n - 2) = false ∧ t (n - 1) = false := by
  unfold pn2
  by_cases h : n < 2
  · rw [if_pos h]; exact Or.inl ⟨rfl, h⟩
  · rw [if_neg h]
    by_cases ht : t (n - 2) = true ∨ t (n - 1) = true
    · rw [if_pos ht]; exact Or.inr (Or.inl ⟨rfl, by omega, ht⟩)
    · rw [if_neg ht]; exact Or.inr (Or.inr ⟨rfl, by omega, by cases z : t (n - 2) <;> simp_all, by cases z : t (n - 1) <;> simp_all⟩)
theorem pn1_o {n : Nat} {t : Nat → Bool} (h : pn1 n t = -1) : 1 ≤ n ∧ t (n - 1) = false := by
  rcases pn1_v n t with z | z | z
  · exact absurd (z.1.symm.trans h) (by decide)
  · exact absurd (z.1.symm.trans h) (by decide)
  · exact z.2
theorem pn2_o {n : Nat} {t : Nat → Bool} (h : pn2 n t = -1) : 2 ≤ n ∧ t (n - 2) = false ∧ t (n - 1) = false := by
  rcases pn2_v n t with z | z | z
  · exact absurd (z.1.symm.trans h) (by decide)
  · exact absurd (z.1.symm.trans h) (by decide)
  · exact z.2
theorem pn1_pa {n : Nat} {u : Nat → Int} {t : Nat → Bool} (h : pn1 n t ≠ -1) : pa1 n u t = pn1 n t ∧ (pn1 n t = 9 ∨ pn1 n t = 10) := by
  rcases pn1_v n t with z | z | z
  · exact ⟨by unfold pa1; rw [if_pos z.2, z.1], Or.inl z.1⟩
  · exact ⟨by unfold pa1 pwh1; rw [if_neg (by omega), if_pos z.2.2, z.1], Or.inr z.1⟩
  · exact absurd z.1 h
theorem pn2_pa {n : Nat} {u : Nat → Int} {t : Nat → Bool} (h : pn2 n t ≠ -1) : pa2 n u t = pn2 n t ∧ (pn2 n t = 9 ∨ pn2 n t = 10) := by
  rcases pn2_v n t with z | z | z
  · exact ⟨by unfold pa2; rw [if_pos z.2, z.1], Or.inl z.1⟩
  · exact ⟨by unfold pa2 pwh2; rw [if_neg (by omega), if_pos z.2.2, z.1], Or.inr z.1⟩
  · exact absurd z.1 h
theorem bad_ne {M : x_M} {c : Int} (h : c = 9 ∨ c = 10) : (bad M c).1 3 ≠ -1 := by
  rw [bad_3]
  rcases h with h | h <;> rw [h] <;> decide
set_option maxHeartbeats 4000000 in
set_option maxRecDepth 100000 in
theorem M_areWhole1_m {l : Launch} {G : ax_G} (S : x_S) (M : x_M) (tl : List va_E) (n : Nat) (u : Nat → Int) (t : Nat → Bool) (hG : gd M) (hW : WS n u t) (hM : MS M n u t) :
    AM l VV G M_areWhole_y M_areWhole_c 4 (some .boolean) 4 0 0 [.ref 153, .int (nI 1)] (x_hM S M tl) (fun v h' => mq S tl M (pa1 n u t) v h') := by
  refine AM.of (pl := pl_M) (by decide) v_good fl_M_ok kl_M_ok nofun (Nat.le_of_ble_eq_true rfl) ?_
  intro p e s m args below meth c X
  refine AW.run X M_areWhole_d 0 2 rfl ?_
  refine AW.callV (As := [.int (nI 1)]) X (M_areNumbers1_m S M tl n u t hG hW hM) cb_M_366 rfl rfl M_areNumbers_im M_areNumbers_se rfl ⟨Nat.le_of_ble_eq_true rfl, Nat.le_of_ble_eq_true rfl⟩ (Nat.le_of_ble_eq_true rfl) ⟨Nat.le_of_ble_eq_true rfl, Nat.le_of_ble_eq_true rfl⟩ (M_areWhole_d.d 2 rfl) (fun v h' q => ?_)
  rcases q with ⟨hc, rfl, rfl⟩ | ⟨hc, rfl, rfl⟩
  · obtain ⟨hn, ht1⟩ := pn1_o hc
    refine AW.run X M_areWhole_d 3 5 rfl ?_
    refine AW.icmp_gt X (M_areWhole_d.d 8 rfl) (fun q8 => absurd q8 (by decide)) (fun q8 => ?_)
    refine AW.run X M_areWhole_d 9 1 rfl ?_
    refine AW.if_eq X (M_areWhole_d.d 10 rfl) (fun q10 => absurd q10 (by decide)) (fun q10 => ?_)
    refine AW.run X M_areWhole_d 11 6 rfl ?_
    refine AW.mll3 (j := n - 1) X (hM.i (k := 1) (by omega)) (by have := hW.1; omega) (M_areWhole_d.d 17 rfl) ?_
    rw [(hM.2 (n - 1) (by omega)).1]
    refine AW.run X M_areWhole_d 18 1 rfl ?_
    refine AW.lrem X (M_areWhole_d.d 19 rfl) (by decide) ?_
    refine AW.run X M_areWhole_d 20 2 rfl ?_
    refine AW.if_ne X (M_areWhole_d.d 22 rfl) (fun q22 => ?_) (fun q22 => ?_)
    · refine AW.run X M_areWhole_d 25 3 rfl ?_
      refine AW.goto X (M_areWhole_d.d 28 rfl) ?_
      refine AW.run X M_areWhole_d 6 2 rfl ?_
      refine AW.icmp_gt X (M_areWhole_d.d 8 rfl) (fun q8 => ?_) (fun q8 => absurd q8 (by decide))
      refine AW.run X M_areWhole_d 29 1 rfl ?_
      refine AW.callV (As := []) X (M_isGoodG_m S M tl hG) cb_M_349 rfl rfl M_isGood_im M_isGood_se rfl ⟨Nat.le_of_ble_eq_true rfl, Nat.le_of_ble_eq_true rfl⟩ (Nat.le_of_ble_eq_true rfl) ⟨Nat.le_of_ble_eq_true rfl, Nat.le_of_ble_eq_true rfl⟩ (M_areWhole_d.d 30 rfl) (fun v h' q => ?_)
      obtain ⟨rfl, rfl⟩ := q
      refine AW.if_eq X (M_areWhole_d.d 31 rfl) (fun q31 => absurd q31 (by decide)) (fun q31 => ?_)
      refine AW.run X M_areWhole_d 32 1 rfl ?_
      refine AW.if_ne X (M_areWhole_d.d 33 rfl) (fun q33 => absurd q33 (by decide)) (fun q33 => ?_)
      refine AW.run X M_areWhole_d 34 2 rfl ?_
      refine AW.callV (As := [.int (iZ 11)]) X (M_failG_m S M tl 11 hG) cb_M_356 rfl rfl M_fail_im M_fail_se rfl ⟨Nat.le_of_ble_eq_true rfl, Nat.le_of_ble_eq_true rfl⟩ (Nat.le_of_ble_eq_true rfl) ⟨Nat.le_of_ble_eq_true rfl, Nat.le_of_ble_eq_true rfl⟩ (M_areWhole_d.d 36 rfl) (fun v h' q => ?_)
      obtain ⟨rfl, rfl⟩ := q
      refine AW.run X M_areWhole_d 37 1 rfl ?_
      refine AW.callV (As := []) X (M_isGoodB_m S (bad M 11) tl (by rw [bad_3]; decide)) cb_M_349 rfl rfl M_isGood_im M_isGood_se rfl ⟨Nat.le_of_ble_eq_true rfl, Nat.le_of_ble_eq_true rfl⟩ (Nat.le_of_ble_eq_true rfl) ⟨Nat.le_of_ble_eq_true rfl, Nat.le_of_ble_eq_true rfl⟩ (M_areWhole_d.d 38 rfl) (fun v h' q => ?_)
      obtain ⟨rfl, rfl⟩ := q
      exact AW.zret X (bI_nar _) (M_areWhole_d.d 39 rfl) (Nat.le_of_ble_eq_true rfl) (Nat.le_of_ble_eq_true rfl) (mt_e (by unfold pa1 pwh1; rw [if_neg (by omega), if_neg (by rw [ht1]; decide), if_pos (fun z => q22 ((lrem_0 (hW.2 (n - 1) (by omega)).1).mpr z))]) (by decide))
    · refine AW.run X M_areWhole_d 23 1 rfl ?_
      refine AW.goto X (M_areWhole_d.d 24 rfl) ?_
      refine AW.run X M_areWhole_d 26 2 rfl ?_
      refine AW.goto X (M_areWhole_d.d 28 rfl) ?_
      refine AW.run X M_areWhole_d 6 2 rfl ?_
      refine AW.icmp_gt X (M_areWhole_d.d 8 rfl) (fun q8 => ?_) (fun q8 => absurd q8 (by decide))
      refine AW.run X M_areWhole_d 29 1 rfl ?_
      refine AW.callV (As := []) X (M_isGoodG_m S M tl hG) cb_M_349 rfl rfl M_isGood_im M_isGood_se rfl ⟨Nat.le_of_ble_eq_true rfl, Nat.le_of_ble_eq_true rfl⟩ (Nat.le_of_ble_eq_true rfl) ⟨Nat.le_of_ble_eq_true rfl, Nat.le_of_ble_eq_true rfl⟩ (M_areWhole_d.d 30 rfl) (fun v h' q => ?_)
      obtain ⟨rfl, rfl⟩ := q
      refine AW.if_eq X (M_areWhole_d.d 31 rfl) (fun q31 => absurd q31 (by decide)) (fun q31 => ?_)
      refine AW.run X M_areWhole_d 32 1 rfl ?_
      refine AW.if_ne X (M_areWhole_d.d 33 rfl) (fun q33 => ?_) (fun q33 => absurd q33 (by decide))
      refine AW.run X M_areWhole_d 37 1 rfl ?_
      refine AW.callV (As := []) X (M_isGoodG_m S M tl hG) cb_M_349 rfl rfl M_isGood_im M_isGood_se rfl ⟨Nat.le_of_ble_eq_true rfl, Nat.le_of_ble_eq_true rfl⟩ (Nat.le_of_ble_eq_true rfl) ⟨Nat.le_of_ble_eq_true rfl, Nat.le_of_ble_eq_true rfl⟩ (M_areWhole_d.d 38 rfl) (fun v h' q => ?_)
      obtain ⟨rfl, rfl⟩ := q
      exact AW.zret X (bI_nar _) (M_areWhole_d.d 39 rfl) (Nat.le_of_ble_eq_true rfl) (Nat.le_of_ble_eq_true rfl) (Or.inl ⟨by unfold pa1 pwh1; rw [if_neg (by omega), if_neg (by rw [ht1]; decide), if_neg (fun z => z ((lrem_0 (hW.2 (n - 1) (by omega)).1).mp q22))], rfl, rfl⟩)
  · obtain ⟨hb1, hb2⟩ := pn1_pa (u := u) hc
    refine AW.run X M_areWhole_d 3 5 rfl ?_
    refine AW.icmp_gt X (M_areWhole_d.d 8 rfl) (fun q8 => absurd q8 (by decide)) (fun q8 => ?_)
    refine AW.run X M_areWhole_d 9 1 rfl ?_
    refine AW.if_eq X (M_areWhole_d.d 10 rfl) (fun q10 => ?_) (fun q10 => absurd q10 (by decide))
    refine AW.run X M_areWhole_d 29 1 rfl ?_
    refine AW.callV (As := []) X (M_isGoodB_m S (bad M (pn1 n t)) tl (bad_ne hb2)) cb_M_349 rfl rfl M_isGood_im M_isGood_se rfl ⟨Nat.le_of_ble_eq_true rfl, Nat.le_of_ble_eq_true rfl⟩ (Nat.le_of_ble_eq_true rfl) ⟨Nat.le_of_ble_eq_true rfl, Nat.le_of_ble_eq_true rfl⟩ (M_areWhole_d.d 30 rfl) (fun v h' q => ?_)
    obtain ⟨rfl, rfl⟩ := q
    refine AW.if_eq X (M_areWhole_d.d 31 rfl) (fun q31 => ?_) (fun q31 => absurd q31 (by decide))
    refine AW.run X M_areWhole_d 37 1 rfl ?_
    refine AW.callV (As := []) X (M_isGoodB_m S (bad M (pn1 n t)) tl (bad_ne hb2)) cb_M_349 rfl rfl M_isGood_im M_isGood_se rfl ⟨Nat.le_of_ble_eq_true rfl, Nat.le_of_ble_eq_true rfl⟩ (Nat.le_of_ble_eq_true rfl) ⟨Nat.le_of_ble_eq_true rfl, Nat.le_of_ble_eq_true rfl⟩ (M_areWhole_d.d 38 rfl) (fun v h' q => ?_)
    obtain ⟨rfl, rfl⟩ := q
    exact AW.zret X (bI_nar _) (M_areWhole_d.d 39 rfl) (Nat.le_of_ble_eq_true rfl) (Nat.le_of_ble_eq_true rfl) (mt_e hb1 hc)

set_option maxHeartbeats 4000000 in
set_option maxRecDepth 100000 in
theorem M_areWhole2_m {l : Launch} {G : ax_G} (S : x_S) (M : x_M) (tl : List va_E) (n : Nat) (u : Nat → Int) (t : Nat → Bool) (hG : gd M) (hW : WS n u t) (hM : MS M n u t) :
    AM l VV G M_areWhole_y M_areWhole_c 4 (some .boolean) 4 0 0 [.ref 153, .int (nI 2)] (x_hM S M tl) (fun v h' => mq S tl M (pa2 n u t) v h') := by
  refine AM.of (pl := pl_M) (by decide) v_good fl_M_ok kl_M_ok nofun (Nat.le_of_ble_eq_true rfl) ?_
  intro p e s m args below meth c X
  refine AW.run X M_areWhole_d 0 2 rfl ?_
  refine AW.callV (As := [.int (nI 2)]) X (M_areNumbers2_m S M tl n u t hG hW hM) cb_M_366 rfl rfl M_areNumbers_im M_areNumbers_se rfl ⟨Nat.le_of_ble_eq_true rfl, Nat.le_of_ble_eq_true rfl⟩ (Nat.le_of_ble_eq_true rfl) ⟨Nat.le_of_ble_eq_true rfl, Nat.le_of_ble_eq_true rfl⟩ (M_areWhole_d.d 2 rfl) (fun v h' q => ?_)
  rcases q with ⟨hc, rfl, rfl⟩ | ⟨hc, rfl, rfl⟩
  · obtain ⟨hn, ht2, ht1⟩ := pn2_o hc
    refine AW.run X M_areWhole_d 3 5 rfl ?_
    refine AW.icmp_gt X (M_areWhole_d.d 8 rfl) (fun q8 => absurd q8 (by decide)) (fun q8 => ?_)
    refine AW.run X M_areWhole_d 9 1 rfl ?_
    refine AW.if_eq X (M_areWhole_d.d 10 rfl) (fun q10 => absurd q10 (by decide)) (fun q10 => ?_)
    refine AW.run X M_areWhole_d 11 6 rfl ?_
    refine AW.mll3 (j := n - 1) X (hM.i (k := 1) (by omega)) (by have := hW.1; omega) (M_areWhole_d.d 17 rfl) ?_
    rw [(hM.2 (n - 1) (by omega)).1]
    refine AW.run X M_areWhole_d 18 1 rfl ?_
    refine AW.lrem X (M_areWhole_d.d 19 rfl) (by decide) ?_
    refine AW.run X M_areWhole_d 20 2 rfl ?_
    refine AW.if_ne X (M_areWhole_d.d 22 rfl) (fun qa => ?_) (fun qa => ?_)
    · refine AW.run X M_areWhole_d 25 3 rfl ?_
      refine AW.goto X (M_areWhole_d.d 28 rfl) ?_
      refine AW.run X M_areWhole_d 6 2 rfl ?_
      refine AW.icmp_gt X (M_areWhole_d.d 8 rfl) (fun q8 => absurd q8 (by decide)) (fun q8 => ?_)
      refine AW.run X M_areWhole_d 9 1 rfl ?_
      refine AW.if_eq X (M_areWhole_d.d 10 rfl) (fun q10 => ?_) (fun q10 => absurd q10 (by decide))
      refine AW.run X M_areWhole_d 29 1 rfl ?_
      refine AW.callV (As := []) X (M_isGoodG_m S M tl hG) cb_M_349 rfl rfl M_isGood_im M_isGood_se rfl ⟨Nat.le_of_ble_eq_true rfl, Nat.le_of_ble_eq_true rfl⟩ (Nat.le_of_ble_eq_true rfl) ⟨Nat.le_of_ble_eq_true rfl, Nat.le_of_ble_eq_true rfl⟩ (M_areWhole_d.d 30 rfl) (fun v h' q => ?_)
      obtain ⟨rfl, rfl⟩ := q
      refine AW.if_eq X (M_areWhole_d.d 31 rfl) (fun q31 => absurd q31 (by decide)) (fun q31 => ?_)
      refine AW.run X M_areWhole_d 32 1 rfl ?_
      refine AW.if_ne X (M_areWhole_d.d 33 rfl) (fun q33 => absurd q33 (by decide)) (fun q33 => ?_)
      refine AW.run X M_areWhole_d 34 2 rfl ?_
      refine AW.callV (As := [.int (iZ 11)]) X (M_failG_m S M tl 11 hG) cb_M_356 rfl rfl M_fail_im M_fail_se rfl ⟨Nat.le_of_ble_eq_true rfl, Nat.le_of_ble_eq_true rfl⟩ (Nat.le_of_ble_eq_true rfl) ⟨Nat.le_of_ble_eq_true rfl, Nat.le_of_ble_eq_true rfl⟩ (M_areWhole_d.d 36 rfl) (fun v h' q => ?_)
      obtain ⟨rfl, rfl⟩ := q
      refine AW.run X M_areWhole_d 37 1 rfl ?_
      refine AW.callV (As := []) X (M_isGoodB_m S (bad M 11) tl (by rw [bad_3]; decide)) cb_M_349 rfl rfl M_isGood_im M_isGood_se rfl ⟨Nat.le_of_ble_eq_true rfl, Nat.le_of_ble_eq_true rfl⟩ (Nat.le_of_ble_eq_true rfl) ⟨Nat.le_of_ble_eq_true rfl, Nat.le_of_ble_eq_true rfl⟩ (M_areWhole_d.d 38 rfl) (fun v h' q => ?_)
      obtain ⟨rfl, rfl⟩ := q
      exact AW.zret X (bI_nar _) (M_areWhole_d.d 39 rfl) (Nat.le_of_ble_eq_true rfl) (Nat.le_of_ble_eq_true rfl) (mt_e (by unfold pa2 pwh2; rw [if_neg (by omega), if_neg (fun z => z.elim (fun z => by rw [ht2] at z; cases z) (fun z => by rw [ht1] at z; cases z)), if_pos (Or.inr (fun z => qa ((lrem_0 (hW.2 (n - 1) (by omega)).1).mpr z)))]) (by decide))
    · refine AW.run X M_areWhole_d 23 1 rfl ?_
      refine AW.goto X (M_areWhole_d.d 24 rfl) ?_
      refine AW.run X M_areWhole_d 26 2 rfl ?_
      refine AW.goto X (M_areWhole_d.d 28 rfl) ?_
      refine AW.run X M_areWhole_d 6 2 rfl ?_
      refine AW.icmp_gt X (M_areWhole_d.d 8 rfl) (fun q8 => absurd q8 (by decide)) (fun q8 => ?_)
      refine AW.run X M_areWhole_d 9 1 rfl ?_
      refine AW.if_eq X (M_areWhole_d.d 10 rfl) (fun q10 => absurd q10 (by decide)) (fun q10 => ?_)
      refine AW.run X M_areWhole_d 11 6 rfl ?_
      refine AW.mll3 (j := n - 2) X (hM.i (k := 2) (by omega)) (by have := hW.1; omega) (M_areWhole_d.d 17 rfl) ?_
      rw [(hM.2 (n - 2) (by omega)).1]
      refine AW.run X M_areWhole_d 18 1 rfl ?_
      refine AW.lrem X (M_areWhole_d.d 19 rfl) (by decide) ?_
      refine AW.run X M_areWhole_d 20 2 rfl ?_
      refine AW.if_ne X (M_areWhole_d.d 22 rfl) (fun qb => ?_) (fun qb => ?_)
      · refine AW.run X M_areWhole_d 25 3 rfl ?_
        refine AW.goto X (M_areWhole_d.d 28 rfl) ?_
        refine AW.run X M_areWhole_d 6 2 rfl ?_
        refine AW.icmp_gt X (M_areWhole_d.d 8 rfl) (fun q8 => ?_) (fun q8 => absurd q8 (by decide))
        refine AW.run X M_areWhole_d 29 1 rfl ?_
        refine AW.callV (As := []) X (M_isGoodG_m S M tl hG) cb_M_349 rfl rfl M_isGood_im M_isGood_se rfl ⟨Nat.le_of_ble_eq_true rfl, Nat.le_of_ble_eq_true rfl⟩ (Nat.le_of_ble_eq_true rfl) ⟨Nat.le_of_ble_eq_true rfl, Nat.le_of_ble_eq_true rfl⟩ (M_areWhole_d.d 30 rfl) (fun v h' q => ?_)
        obtain ⟨rfl, rfl⟩ := q
        refine AW.if_eq X (M_areWhole_d.d 31 rfl) (fun q31 => absurd q31 (by decide)) (fun q31 => ?_)
        refine AW.run X M_areWhole_d 32 1 rfl ?_
        refine AW.if_ne X (M_areWhole_d.d 33 rfl) (fun q33 => absurd q33 (by decide)) (fun q33 => ?_)
        refine AW.run X M_areWhole_d 34 2 rfl ?_
        refine AW.callV (As := [.int (iZ 11)]) X (M_failG_m S M tl 11 hG) cb_M_356 rfl rfl M_fail_im M_fail_se rfl ⟨Nat.le_of_ble_eq_true rfl, Nat.le_of_ble_eq_true rfl⟩ (Nat.le_of_ble_eq_true rfl) ⟨Nat.le_of_ble_eq_true rfl, Nat.le_of_ble_eq_true rfl⟩ (M_areWhole_d.d 36 rfl) (fun v h' q => ?_)
        obtain ⟨rfl, rfl⟩ := q
        refine AW.run X M_areWhole_d 37 1 rfl ?_
        refine AW.callV (As := []) X (M_isGoodB_m S (bad M 11) tl (by rw [bad_3]; decide)) cb_M_349 rfl rfl M_isGood_im M_isGood_se rfl ⟨Nat.le_of_ble_eq_true rfl, Nat.le_of_ble_eq_true rfl⟩ (Nat.le_of_ble_eq_true rfl) ⟨Nat.le_of_ble_eq_true rfl, Nat.le_of_ble_eq_true rfl⟩ (M_areWhole_d.d 38 rfl) (fun v h' q => ?_)
        obtain ⟨rfl, rfl⟩ := q
        exact AW.zret X (bI_nar _) (M_areWhole_d.d 39 rfl) (Nat.le_of_ble_eq_true rfl) (Nat.le_of_ble_eq_true rfl) (mt_e (by unfold pa2 pwh2; rw [if_neg (by omega), if_neg (fun z => z.elim (fun z => by rw [ht2] at z; cases z) (fun z => by rw [ht1] at z; cases z)), if_pos (Or.inl (fun z => qb ((lrem_0 (hW.2 (n - 2) (by omega)).1).mpr z)))]) (by decide))
      · refine AW.run X M_areWhole_d 23 1 rfl ?_
        refine AW.goto X (M_areWhole_d.d 24 rfl) ?_
        refine AW.run X M_areWhole_d 26 2 rfl ?_
        refine AW.goto X (M_areWhole_d.d 28 rfl) ?_
        refine AW.run X M_areWhole_d 6 2 rfl ?_
        refine AW.icmp_gt X (M_areWhole_d.d 8 rfl) (fun q8 => ?_) (fun q8 => absurd q8 (by decide))
        refine AW.run X M_areWhole_d 29 1 rfl ?_
        refine AW.callV (As := []) X (M_isGoodG_m S M tl hG) cb_M_349 rfl rfl M_isGood_im M_isGood_se rfl ⟨Nat.le_of_ble_eq_true rfl, Nat.le_of_ble_eq_true rfl⟩ (Nat.le_of_ble_eq_true rfl) ⟨Nat.le_of_ble_eq_true rfl, Nat.le_of_ble_eq_true rfl⟩ (M_areWhole_d.d 30 rfl) (fun v h' q => ?_)
        obtain ⟨rfl, rfl⟩ := q
        refine AW.if_eq X (M_areWhole_d.d 31 rfl) (fun q31 => absurd q31 (by decide)) (fun q31 => ?_)
        refine AW.run X M_areWhole_d 32 1 rfl ?_
        refine AW.if_ne X (M_areWhole_d.d 33 rfl) (fun q33 => ?_) (fun q33 => absurd q33 (by decide))
        refine AW.run X M_areWhole_d 37 1 rfl ?_
        refine AW.callV (As := []) X (M_isGoodG_m S M tl hG) cb_M_349 rfl rfl M_isGood_im M_isGood_se rfl ⟨Nat.le_of_ble_eq_true rfl, Nat.le_of_ble_eq_true rfl⟩ (Nat.le_of_ble_eq_true rfl) ⟨Nat.le_of_ble_eq_true rfl, Nat.le_of_ble_eq_true rfl⟩ (M_areWhole_d.d 38 rfl) (fun v h' q => ?_)
        obtain ⟨rfl, rfl⟩ := q
        exact AW.zret X (bI_nar _) (M_areWhole_d.d 39 rfl) (Nat.le_of_ble_eq_true rfl) (Nat.le_of_ble_eq_true rfl) (Or.inl ⟨by unfold pa2 pwh2; rw [if_neg (by omega), if_neg (fun z => z.elim (fun z => by rw [ht2] at z; cases z) (fun z => by rw [ht1] at z; cases z)), if_neg (fun z => z.elim (fun z => z ((lrem_0 (hW.2 (n - 2) (by omega)).1).mp qb)) (fun z => z ((lrem_0 (hW.2 (n - 1) (by omega)).1).mp qa)))], rfl, rfl⟩)
  · obtain ⟨hb1, hb2⟩ := pn2_pa (u := u) hc
    refine AW.run X M_areWhole_d 3 5 rfl ?_
    refine AW.icmp_gt X (M_areWhole_d.d 8 rfl) (fun q8 => absurd q8 (by decide)) (fun q8 => ?_)
    refine AW.run X M_areWhole_d 9 1 rfl ?_
    refine AW.if_eq X (M_areWhole_d.d 10 rfl) (fun q10 => ?_) (fun q10 => absurd q10 (by decide))
    refine AW.run X M_areWhole_d 29 1 rfl ?_
    refine AW.callV (As := []) X (M_isGoodB_m S (bad M (pn2 n t)) tl (bad_ne hb2)) cb_M_349 rfl rfl M_isGood_im M_isGood_se rfl ⟨Nat.le_of_ble_eq_true rfl, Nat.le_of_ble_eq_true rfl⟩ (Nat.le_of_ble_eq_true rfl) ⟨Nat.le_of_ble_eq_true rfl, Nat.le_of_ble_eq_true rfl⟩ (M_areWhole_d.d 30 rfl) (fun v h' q => ?_)
    obtain ⟨rfl, rfl⟩ := q
    refine AW.if_eq X (M_areWhole_d.d 31 rfl) (fun q31 => ?_) (fun q31 => absurd q31 (by decide))
    refine AW.run X M_areWhole_d 37 1 rfl ?_
    refine AW.callV (As := []) X (M_isGoodB_m S (bad M (pn2 n t)) tl (bad_ne hb2)) cb_M_349 rfl rfl M_isGood_im M_isGood_se rfl ⟨Nat.le_of_ble_eq_true rfl, Nat.le_of_ble_eq_true rfl⟩ (Nat.le_of_ble_eq_true rfl) ⟨Nat.le_of_ble_eq_true rfl, Nat.le_of_ble_eq_true rfl⟩ (M_areWhole_d.d 38 rfl) (fun v h' q => ?_)
    obtain ⟨rfl, rfl⟩ := q
    exact AW.zret X (bI_nar _) (M_areWhole_d.d 39 rfl) (Nat.le_of_ble_eq_true rfl) (Nat.le_of_ble_eq_true rfl) (mt_e hb1 hc)

set_option maxHeartbeats 4000000 in
set_option maxRecDepth 100000 in
theorem M_take_m {l : Launch} {G : ax_G} (S : x_S) (M : x_M) (tl : List va_E) (n : Nat) (u : Nat → Int) (t : Nat → Bool) (hW : n ≤ 60) (hM : MS M n u t) (hn : 1 ≤ n) :
    AM l VV G M_take_y M_take_c 1 (some .long) 0 0 0 [.ref 153] (x_hM S M tl) (fun v h' => v = some (.long (lZ (u (n - 1)))) ∧ h' = x_hM S (y_i M 9 (nI (n - 1))) tl) := by
  refine AM.of (pl := pl_M) (by decide) v_good fl_M_ok kl_M_ok nofun (Nat.le_of_ble_eq_true rfl) ?_
  intro p e s m args below meth c X
  refine AW.run X M_take_d 0 4 rfl ?_
  refine AW.run X M_take_d 4 1 rfl ?_
  rw [show M.1 9 - Int32.ofInt 1 = nI (n - 1) from hM.i (k := 1) hn]
  refine AW.mp9 X (M_take_d.d 5 rfl) ?_
  refine AW.run X M_take_d 6 4 rfl ?_
  refine AW.mll3 (j := n - 1) X (y_ig _ _ _) (by omega) (M_take_d.d 10 rfl) ?_
  rw [show (y_i M 9 (nI (n - 1))).2.2 3 (n - 1) = M.2.2 3 (n - 1) from rfl, (hM.2 (n - 1) (by omega)).1]
  exact AW.lret X (M_take_d.d 11 rfl) (Nat.le_of_ble_eq_true rfl) (Nat.le_of_ble_eq_true rfl) ⟨rfl, rfl⟩

theorem put_lt {M : x_M} {n : Nat} {u : Nat → Int} {t : Nat → Bool} (hW : n ≤ 60) (hM : MS M n u t) (q : ¬ M.1 9 = (60 : Int32)) : n < 60 := by
  have : n ≠ 60 := fun z => q (by rw [hM.1, z]; rfl)
  omega
theorem put_ok {S : x_S} {tl : List va_E} {M : x_M} {n : Nat} {u : Nat → Int} {t : Nat → Bool} {x : Int} {b : Bool} {y : Int64} (hW : n ≤ 60) (hM : MS M n u t) (hG : gd M) (h : n < 60) (hy : y = lZ (zk x)) : mp S tl M (pgive n u t 0 x b) (x_hM S (y_i (y_a (y_l M 3 n y) 13 n (vp_nar .boolean (bI b))) 9 (M.1 9 + Int32.ofInt 1)) tl) := by
  have e : pgive n u t 0 x b = (-1, n + 1, va_up u n (zk x), va_up t n b) := by unfold pgive; rw [if_neg (by omega)]; rfl
  rw [e, hM.1]
  exact ⟨_, rfl, ((MFr.s _ _ _).trans (MFr.t _ _ _)).trans (MFr.d _ _), fun _ => ⟨hG, hM.put hy⟩, fun z => absurd rfl z⟩
set_option maxHeartbeats 4000000 in
set_option maxRecDepth 100000 in
theorem M_put_m {l : Launch} {G : ax_G} (S : x_S) (M : x_M) (tl : List va_E) (n : Nat) (u : Nat → Int) (t : Nat → Bool) (x : Int) (b : Bool) (hG : gd M) (hW : n ≤ 60) (hM : MS M n u t) (hx : zL x) (hb : b = true → zk x = x) :
    AM l VV G M_put_y M_put_c 4 none 2 0 0 [.ref 153, .long (lZ x), .int (bI b)] (x_hM S M tl) (fun v h' => v = none ∧ mp S tl M (pgive n u t 0 x b) h') := by
  refine AM.of (pl := pl_M) (by decide) v_good fl_M_ok kl_M_ok nofun (Nat.le_of_ble_eq_true rfl) ?_
  intro p e s m args below meth c X
  refine AW.run X M_put_d 0 1 rfl ?_
  refine AW.callV (As := []) X (M_isGoodG_m S M tl hG) cb_M_349 rfl rfl M_isGood_im M_isGood_se rfl ⟨Nat.le_of_ble_eq_true rfl, Nat.le_of_ble_eq_true rfl⟩ (Nat.le_of_ble_eq_true rfl) ⟨Nat.le_of_ble_eq_true rfl, Nat.le_of_ble_eq_true rfl⟩ (M_put_d.d 1 rfl) (fun v h' q => ?_)
  obtain ⟨rfl, rfl⟩ := q
  refine AW.if_eq X (M_put_d.d 2 rfl) (fun q2 => absurd q2 (by decide)) (fun q2 => ?_)
  refine AW.run X M_put_d 3 3 rfl ?_
  refine AW.icmp_ne X (M_put_d.d 6 rfl) (fun q6 => ?_) (fun q6 => ?_)
  · refine AW.run X M_put_d 10 1 rfl ?_
    refine AW.callV (As := []) X (M_isGoodG_m S M tl hG) cb_M_349 rfl rfl M_isGood_im M_isGood_se rfl ⟨Nat.le_of_ble_eq_true rfl, Nat.le_of_ble_eq_true rfl⟩ (Nat.le_of_ble_eq_true rfl) ⟨Nat.le_of_ble_eq_true rfl, Nat.le_of_ble_eq_true rfl⟩ (M_put_d.d 11 rfl) (fun v h' q => ?_)
    obtain ⟨rfl, rfl⟩ := q
    refine AW.if_eq X (M_put_d.d 12 rfl) (fun q12 => absurd q12 (by decide)) (fun q12 => ?_)
    refine AW.run X M_put_d 13 5 rfl ?_
    refine AW.if_eq X (M_put_d.d 18 rfl) (fun q18 => ?_) (fun q18 => ?_)
    · refine AW.run X M_put_d 21 1 rfl ?_
      refine AW.callS (As := [.long (lZ x)]) X (M_kept_m x hx) cb_M_119 M_kept_st rfl ⟨Nat.le_of_ble_eq_true rfl, Nat.le_of_ble_eq_true rfl⟩ (Nat.le_of_ble_eq_true rfl) ⟨Nat.le_of_ble_eq_true rfl, Nat.le_of_ble_eq_true rfl⟩ (M_put_d.d 22 rfl) (fun v h' q => ?_)
      obtain ⟨rfl, rfl⟩ := q
      refine AW.msl3 (j := n) X hM.1 (put_lt hW hM q6) (M_put_d.d 23 rfl) ?_
      refine AW.run X M_put_d 24 5 rfl ?_
      refine AW.ms13 (j := n) X hM.1 (put_lt hW hM q6) (M_put_d.d 29 rfl) ?_
      refine AW.run X M_put_d 30 5 rfl ?_
      refine AW.mp9 X (M_put_d.d 35 rfl) ?_
      exact AW.vret X (M_put_d.d 36 rfl) (Nat.le_of_ble_eq_true rfl) (Nat.le_of_ble_eq_true rfl) ⟨rfl, put_ok hW hM hG (put_lt hW hM q6) rfl⟩
    · refine AW.run X M_put_d 19 1 rfl ?_
      refine AW.goto X (M_put_d.d 20 rfl) ?_
      refine AW.msl3 (j := n) X hM.1 (put_lt hW hM q6) (M_put_d.d 23 rfl) ?_
      refine AW.run X M_put_d 24 5 rfl ?_
      refine AW.ms13 (j := n) X hM.1 (put_lt hW hM q6) (M_put_d.d 29 rfl) ?_
      refine AW.run X M_put_d 30 5 rfl ?_
      refine AW.mp9 X (M_put_d.d 35 rfl) ?_
      exact AW.vret X (M_put_d.d 36 rfl) (Nat.le_of_ble_eq_true rfl) (Nat.le_of_ble_eq_true rfl) ⟨rfl, put_ok hW hM hG (put_lt hW hM q6) (by cases b with
        | false => exact absurd rfl q18
        | true => rw [hb rfl])⟩
  · refine AW.run X M_put_d 7 2 rfl ?_
    refine AW.callV (As := [.int (iZ 8)]) X (M_failG_m S M tl 8 hG) cb_M_356 rfl rfl M_fail_im M_fail_se rfl ⟨Nat.le_of_ble_eq_true rfl, Nat.le_of_ble_eq_true rfl⟩ (Nat.le_of_ble_eq_true rfl) ⟨Nat.le_of_ble_eq_true rfl, Nat.le_of_ble_eq_true rfl⟩ (M_put_d.d 9 rfl) (fun v h' q => ?_)
    obtain ⟨rfl, rfl⟩ := q
    refine AW.run X M_put_d 10 1 rfl ?_
    refine AW.callV (As := []) X (M_isGoodB_m S (bad M 8) tl (by rw [bad_3]; decide)) cb_M_349 rfl rfl M_isGood_im M_isGood_se rfl ⟨Nat.le_of_ble_eq_true rfl, Nat.le_of_ble_eq_true rfl⟩ (Nat.le_of_ble_eq_true rfl) ⟨Nat.le_of_ble_eq_true rfl, Nat.le_of_ble_eq_true rfl⟩ (M_put_d.d 11 rfl) (fun v h' q => ?_)
    obtain ⟨rfl, rfl⟩ := q
    refine AW.if_eq X (M_put_d.d 12 rfl) (fun q12 => ?_) (fun q12 => absurd q12 (by decide))
    exact AW.vret X (M_put_d.d 36 rfl) (Nat.le_of_ble_eq_true rfl) (Nat.le_of_ble_eq_true rfl) ⟨rfl, mp_bad (by unfold pgive; rw [if_pos (by have := ceq (b := 60) q6 hM.1; omega)]) (by decide)⟩

set_option maxHeartbeats 4000000 in
set_option maxRecDepth 100000 in
theorem M_putNumber_m {l : Launch} {G : ax_G} (S : x_S) (M : x_M) (tl : List va_E) (n : Nat) (u : Nat → Int) (t : Nat → Bool) (x : Int) (hG : gd M) (hW : n ≤ 60) (hM : MS M n u t) (hx : zL x) :
    AM l VV G M_putNumber_y M_putNumber_c 3 none 3 0 0 [.ref 153, .long (lZ x)] (x_hM S M tl) (fun v h' => v = none ∧ mp S tl M (pgive n u t 0 x false) h') := by
  refine AM.of (pl := pl_M) (by decide) v_good fl_M_ok kl_M_ok nofun (Nat.le_of_ble_eq_true rfl) ?_
  intro p e s m args below meth c X
  refine AW.run X M_putNumber_d 0 3 rfl ?_
  refine AW.callV (As := [.long (lZ x), .int (bI false)]) X (M_put_m S M tl n u t x false hG hW hM hx (fun z => by cases z)) cb_M_359 rfl rfl M_put_im M_put_se rfl ⟨Nat.le_of_ble_eq_true rfl, Nat.le_of_ble_eq_true rfl⟩ (Nat.le_of_ble_eq_true rfl) ⟨Nat.le_of_ble_eq_true rfl, Nat.le_of_ble_eq_true rfl⟩ (M_putNumber_d.d 3 rfl) (fun v h' q => ?_)
  obtain ⟨rfl, q⟩ := q
  exact AW.vret X (M_putNumber_d.d 4 rfl) (Nat.le_of_ble_eq_true rfl) (Nat.le_of_ble_eq_true rfl) ⟨rfl, q⟩

set_option maxHeartbeats 4000000 in
set_option maxRecDepth 100000 in
theorem M_putTruth_m {l : Launch} {G : ax_G} (S : x_S) (M : x_M) (tl : List va_E) (n : Nat) (u : Nat → Int) (t : Nat → Bool) (b : Bool) (hG : gd M) (hW : n ≤ 60) (hM : MS M n u t) :
    AM l VV G M_putTruth_y M_putTruth_c 2 none 3 0 0 [.ref 153, .int (bI b)] (x_hM S M tl) (fun v h' => v = none ∧ mp S tl M (pgT n u t 0 b) h') := by
  refine AM.of (pl := pl_M) (by decide) v_good fl_M_ok kl_M_ok nofun (Nat.le_of_ble_eq_true rfl) ?_
  intro p e s m args below meth c X
  refine AW.run X M_putTruth_d 0 2 rfl ?_
  refine AW.if_eq X (M_putTruth_d.d 2 rfl) (fun q2 => ?_) (fun q2 => ?_)
  · refine AW.run X M_putTruth_d 5 2 rfl ?_
    refine AW.callV (As := [.long (lZ 0), .int (bI true)]) X (M_put_m S M tl n u t 0 true hG hW hM ⟨by decide, by decide⟩ (fun _ => by decide)) cb_M_359 rfl rfl M_put_im M_put_se rfl ⟨Nat.le_of_ble_eq_true rfl, Nat.le_of_ble_eq_true rfl⟩ (Nat.le_of_ble_eq_true rfl) ⟨Nat.le_of_ble_eq_true rfl, Nat.le_of_ble_eq_true rfl⟩ (M_putTruth_d.d 7 rfl) (fun v h' q => ?_)
    obtain ⟨rfl, q⟩ := q
    exact AW.vret X (M_putTruth_d.d 8 rfl) (Nat.le_of_ble_eq_true rfl) (Nat.le_of_ble_eq_true rfl) (by have e := bI_f0 q2; subst e; exact ⟨rfl, q⟩)
  · refine AW.run X M_putTruth_d 3 1 rfl ?_
    refine AW.goto X (M_putTruth_d.d 4 rfl) ?_
    refine AW.run X M_putTruth_d 6 1 rfl ?_
    refine AW.callV (As := [.long (lZ 1), .int (bI true)]) X (M_put_m S M tl n u t 1 true hG hW hM ⟨by decide, by decide⟩ (fun _ => by decide)) cb_M_359 rfl rfl M_put_im M_put_se rfl ⟨Nat.le_of_ble_eq_true rfl, Nat.le_of_ble_eq_true rfl⟩ (Nat.le_of_ble_eq_true rfl) ⟨Nat.le_of_ble_eq_true rfl, Nat.le_of_ble_eq_true rfl⟩ (M_putTruth_d.d 7 rfl) (fun v h' q => ?_)
    obtain ⟨rfl, q⟩ := q
    exact AW.vret X (M_putTruth_d.d 8 rfl) (Nat.le_of_ble_eq_true rfl) (Nat.le_of_ble_eq_true rfl) (by cases b with
      | false => exact absurd rfl q2
      | true => exact ⟨rfl, q⟩)

