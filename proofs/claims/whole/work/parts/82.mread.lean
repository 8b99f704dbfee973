/-! THE REFERENCE READS a row -/
noncomputable def cke (sg : Nat → Nat) (s e : Nat) : Int := if dc (isn sg s e) = true then (if 16383 < nwh sg s e then 3 else -1) else if nof (cw sg s e) < 0 then 4 else -1
theorem cw_2 {sg : Nat → Nat} {s e : Nat} (h : s < e) : cw sg s e ≠ 2 := by
  intro z
  have := cw_i (sg := sg) (s := s) (e := e) (k := 2) (by decide)
  rw [decide_eq_true z] at this
  unfold isT at this
  rw [Bool.and_eq_true, decide_eq_true_iff] at this
  have := this.1
  have e0 : (tx 2).length = 0 := by decide
  omega
theorem nof_lt {c : Nat} (a : 3 ≤ c) (b : c ≤ 39) : nof c < 0 ↔ c = 39 := by
  constructor
  · intro h
    apply Classical.byContradiction
    intro z
    have := nof_b a (by omega); omega
  · intro h; rw [h, nof_39]; decide
/-- for a word that is no brace both say the same of it -/
theorem cke_e {sg : Nat → Nat} {s e : Nat} (h : s < e) (h0 : cw sg s e ≠ 0) (h1 : cw sg s e ≠ 1) : cke sg s e = if cw sg s e = 39 then nr sg s e else -1 := by
  have h2 := cw_2 (sg := sg) h
  have hl := cw_le sg s e
  unfold cke
  by_cases i : isn sg s e
  · have z := isn_cw i h
    rw [dc_t i, if_pos rfl, if_pos z]
    unfold nr
    rw [dc_t i, if_neg (show ¬(true = false) by decide)]
  · rw [dc_f i, if_neg (by decide)]
    by_cases z : cw sg s e = 39
    · rw [if_pos z, if_pos (by rw [z, nof_39]; decide), nr_4 i]
    · rw [if_neg z, if_neg (fun y => z ((nof_lt (by omega) hl).mp y))]
theorem cke_b (sg : Nat → Nat) (s e : Nat) : cke sg s e = 3 ∨ cke sg s e = 4 ∨ cke sg s e = -1 := by
  unfold cke
  split
  · split
    · exact Or.inl rfl
    · exact Or.inr (Or.inr rfl)
  · split
    · exact Or.inr (Or.inl rfl)
    · exact Or.inr (Or.inr rfl)
theorem tx_0 : tx 0 = [123] ∧ tx 1 = [125] := by decide
theorem cw_0 {sg : Nat → Nat} {n k : Nat} : cw sg k (we sg n k) = 0 ↔ sg k = 123 := by
  have h := cw_i (sg := sg) (s := k) (e := we sg n k) (k := 0) (by decide)
  rw [tx_0.1] at h
  have g := we_gt sg n k
  constructor
  · intro z
    rw [decide_eq_true z] at h
    unfold isT at h
    rw [Bool.and_eq_true] at h
    have := h.2
    exact of_decide_eq_true (Bool.and_eq_true _ _ ▸ this).1
  · intro z
    have e : we sg n k = k + 1 := if_pos (Or.inl z)
    have : isT sg k (we sg n k) [123] = true := by
      unfold isT
      rw [e, Bool.and_eq_true]
      exact ⟨decide_eq_true (by show 1 = k + 1 - k; omega), by show (decide (sg k = 123) && true) = true; rw [decide_eq_true z]; rfl⟩
    rw [this] at h
    exact of_decide_eq_true h.symm
theorem cw_1 {sg : Nat → Nat} {n k : Nat} : cw sg k (we sg n k) = 1 ↔ sg k = 125 := by
  have h := cw_i (sg := sg) (s := k) (e := we sg n k) (k := 1) (by decide)
  rw [tx_0.2] at h
  constructor
  · intro z
    rw [decide_eq_true z] at h
    unfold isT at h
    rw [Bool.and_eq_true] at h
    have := h.2
    exact of_decide_eq_true (Bool.and_eq_true _ _ ▸ this).1
  · intro z
    have e : we sg n k = k + 1 := if_pos (Or.inr z)
    have : isT sg k (we sg n k) [125] = true := by
      unfold isT
      rw [e, Bool.and_eq_true]
      exact ⟨decide_eq_true (by show 1 = k + 1 - k; omega), by show (decide (sg k = 125) && true) = true; rw [decide_eq_true z]; rfl⟩
    rw [this] at h
    exact of_decide_eq_true h.symm
/-- the reference's frame while it reads -/
def RWf (M M' : x_M) : Prop := (∀ k, k < 6 ∨ 8 < k → M'.1 k = M.1 k) ∧ (∀ k, k ≠ 11 → k ≠ 12 → k ≠ 14 → M'.2.1 k = M.2.1 k) ∧ M'.2.2 = M.2.2
theorem RWf.refl (M : x_M) : RWf M M := ⟨fun _ _ => rfl, fun _ _ _ _ => rfl, rfl⟩
theorem RWf.i {M M1 : x_M} (h : RWf M M1) {k : Nat} (x : Int32) (hk : 6 ≤ k ∧ k ≤ 8) : RWf M (y_i M1 k x) := ⟨fun j a => (y_in M1 x (by omega)).trans (h.1 j a), h.2.1, h.2.2⟩
theorem RWf.a {M M1 : x_M} (h : RWf M M1) {k : Nat} (j : Nat) (x : Int32) (hk : k = 11 ∨ k = 12 ∨ k = 14) : RWf M (y_a M1 k j x) := ⟨h.1, fun i a b c => (y_an M1 j x (by omega)).trans (h.2.1 i a b c), h.2.2⟩
theorem RWf.A {M M1 : x_M} (h : RWf M M1) (g : Nat → Int32) : RWf M (y_A M1 14 g) := ⟨h.1, fun i a b c => (va_up_ne _ _ c).trans (h.2.1 i a b c), h.2.2⟩
/-- reading goes on -/
def rwR (M2 : x_M) (n : Nat) (sg : Nat → Nat) (R : Int × Nat × pP) (P : pP) (k lv : Nat) (dn : Bool) : Prop := (M2.1 7 = 0 ∧ M2.1 6 = nI (qn P)) ∧ (lv = qd P ∧ (dn = true ↔ qd P = 0 ∧ 0 < qn P)) ∧ (∀ j, 1 ≤ j → j ≤ qd P → M2.2.1 14 j = nI (qw P j)) ∧ PI P ∧ (∀ j, j < qn P → ∃ s e, tok sg n P j s e ∧ M2.2.1 11 j = nI s ∧ M2.2.1 12 j = nI e) ∧ prs sg n (401 - qn P) (ws sg n k) P = R
/-- a fault is found -/
def rwE (M2 : x_M) (R : Int × Nat × pP) : Prop := (R.1 ≠ -1 ∧ M2.1 7 ≠ 0) ∧ M2.1 7 = iZ R.1 ∧ M2.1 8 = nI R.2.1
theorem rw_go {M2 M5 : x_M} {n : Nat} {sg : Nat → Nat} {R : Int × Nat × pP} {P : pP} {k lv lv2 : Nat} {dn dn2 : Bool} (h : rwR M2 n sg R P k lv dn) (hk : k < n) (hw : ws sg n k = k) (hq : perr sg P k (we sg n k) = -1) (h7 : M5.1 7 = 0) (h6 : M5.1 6 = nI (qn P + 1)) (hb : M5.2.1 11 = upd (M2.2.1 11) (qn P) (nI k)) (he : M5.2.1 12 = upd (M2.2.1 12) (qn P) (nI (we sg n k)))
    (hr : ∀ i, 1 ≤ i → i ≤ qd (pput P (wcd sg k (we sg n k)) (wnm sg k (we sg n k))) → M5.2.1 14 i = nI (qw (pput P (wcd sg k (we sg n k)) (wnm sg k (we sg n k))) i)) (hl : lv2 = qd (pput P (wcd sg k (we sg n k)) (wnm sg k (we sg n k)))) (hd : dn2 = true ↔ lv2 = 0) : rwR M5 n sg R (pput P (wcd sg k (we sg n k)) (wnm sg k (we sg n k))) (we sg n k) lv2 dn2 := by
  obtain ⟨⟨a1, a2⟩, ⟨b1, b2⟩, c, d, t, r⟩ := h
  have o := perr_ok hq
  refine ⟨⟨h7, by rw [pput_n]; exact h6⟩, ⟨hl, by rw [hd, hl, pput_n]; omega⟩, hr, perr_put hq d, fun j hj => ?_, ?_⟩
  · rw [pput_n] at hj
    rw [hb, he]
    by_cases z : j = qn P
    · rw [z, upd_s, upd_s]; exact ⟨k, _, perr_tok hk hq, rfl, rfl⟩
    · obtain ⟨s', e', t1, t2, t3⟩ := t j (by omega)
      rw [upd_n z, upd_n z]
      exact ⟨s', e', tok_put t1 (by omega), t2, t3⟩
  · rw [pput_n, ← r, hw, show 401 - qn P = (401 - (qn P + 1)) + 1 by omega, prs_go hk hq]
theorem rw_er {M2 M5 : x_M} {n : Nat} {sg : Nat → Nat} {R : Int × Nat × pP} {P : pP} {k lv : Nat} {dn : Bool} {c : Int} (h : rwR M2 n sg R P k lv dn) (hk : k < n) (hw : ws sg n k = k) (hq : perr sg P k (we sg n k) = c) (hc : c ≠ -1) (h0 : iZ c ≠ 0) (h7 : M5.1 7 = iZ c) (h8 : M5.1 8 = nI k) : rwE M5 R := by
  obtain ⟨⟨a1, a2⟩, ⟨b1, b2⟩, c, d, t, r⟩ := h
  have : R = (perr sg P k (we sg n k), k, P) := by rw [← r, hw, show 401 - qn P = (400 - qn P) + 1 by have := d.1; omega, prs_err hk (by rw [hq]; exact hc)]
  rw [this]
  exact ⟨⟨by show perr sg P k (we sg n k) ≠ -1; rw [hq]; exact hc, by rw [h7]; exact h0⟩, by show _ = iZ (perr sg P k (we sg n k)); rw [hq]; exact h7, h8⟩
theorem wcd_0 {sg : Nat → Nat} {s e : Nat} (h : cw sg s e ≠ 39) : wcd sg s e = cw sg s e := if_neg h
theorem put_w0 {P : pP} {x : Int} : ∀ i, 1 ≤ i → i ≤ qd (pput P 0 x) → (i = qd P + 1 ∧ qw (pput P 0 x) i = 0) ∨ (i ≤ qd P ∧ qw (pput P 0 x) i = qw P i) := by
  intro i h1 h2
  have h2' : i ≤ qd P + 1 := h2
  by_cases z : i = qd P + 1
  · left; refine ⟨z, ?_⟩; rw [z]; exact va_up_self (qw P) (qd P + 1) 0
  · right; exact ⟨by omega, va_up_ne (qw P) 0 z⟩
theorem put_w1 {P : pP} {x : Int} : ∀ i, 1 ≤ i → i ≤ qd (pput P 1 x) → (i = qd P - 1 ∧ qw (pput P 1 x) i = qw P i + 1) ∨ (i < qd P - 1 ∧ qw (pput P 1 x) i = qw P i) := by
  intro i h1 h2
  have h2' : i ≤ qd P - 1 := h2
  by_cases z : i = qd P - 1
  · left; refine ⟨z, ?_⟩; rw [z]; exact va_up_self (qw P) (qd P - 1) _
  · right; exact ⟨by omega, va_up_ne (qw P) _ z⟩
theorem put_w2 {P : pP} {w : Nat} {x : Int} (h0 : w ≠ 0) (h1 : w ≠ 1) (hz : w < 37 → qw P (qd P) = 0) : qd (pput P w x) = qd P ∧ ∀ i, 1 ≤ i → i ≤ qd P → (i = qd P ∧ qw (pput P w x) i = 0) ∨ (i < qd P ∧ qw (pput P w x) i = qw P i) := by
  refine ⟨by rw [pput_d, if_neg h0, if_neg h1], fun i l1 l2 => ?_⟩
  by_cases w3 : 37 ≤ w
  · rw [show pput P w x = pwj (pw P w x) from (if_neg h0).trans ((if_neg h1).trans (if_pos w3))]
    by_cases z : i = qd P
    · left; refine ⟨z, ?_⟩; rw [z]; exact va_up_self (qw P) (qd P) 0
    · right; exact ⟨by omega, va_up_ne (qw P) 0 z⟩
  · rw [show pput P w x = pw P w x from (if_neg h0).trans ((if_neg h1).trans (if_neg w3))]
    by_cases z : i = qd P
    · left; refine ⟨z, ?_⟩; rw [z]; exact hz (by omega)
    · right; exact ⟨by omega, rfl⟩
theorem nof_z (c : Nat) : -1 ≤ nof c ∧ nof c < 36 := by
  unfold nof
  split
  · rename_i h
    have := (Classical.choose_spec h).1
    omega
  · omega

set_option maxHeartbeats 4000000 in
set_option maxRecDepth 100000 in
theorem M_checkWord_m {l : Launch} {G : ax_G} (S : x_S) (M : x_M) (tl : List va_E) (f w s e a : Nat) (hf : f < 24) (hw : w < 402) (hb : M.2.1 11 w = nI s) (he : M.2.1 12 w = nI e) (hs : s < e ∧ e ≤ 8192) (h7 : M.1 7 = 0) :
    AM l VV G M_checkWord_y M_checkWord_c 4 none 6 0 0 [.ref 153, .int (nI f), .int (nI w), .int (nI a)] (x_hM S M tl) (fun v h' => v = none ∧ h' = x_hM S (if cke (sgM M f) s e = -1 then M else y_i (y_i M 7 (iZ (cke (sgM M f) s e))) 8 (nI a)) tl) := by
  refine AM.of (pl := pl_M) (by decide) v_good fl_M_ok kl_M_ok nofun (Nat.le_of_ble_eq_true rfl) ?_
  intro p0v e0v s0v m0v args below meth c0v X
  refine AW.run X M_checkWord_d 0 3 rfl ?_
  refine AW.callV (As := [.int (nI f), .int (nI w)]) X (M_isNumber_m S M tl f w s e hf hw hb he hs) cb_M_219 rfl rfl M_isNumber_im M_isNumber_se rfl ⟨Nat.le_of_ble_eq_true rfl, Nat.le_of_ble_eq_true rfl⟩ (Nat.le_of_ble_eq_true rfl) ⟨Nat.le_of_ble_eq_true rfl, Nat.le_of_ble_eq_true rfl⟩ (M_checkWord_d.d 3 rfl) (fun v h' q => ?_)
  obtain ⟨rfl, rfl⟩ := q
  refine AW.if_eq X (M_checkWord_d.d 4 rfl) (fun q4 => ?_) (fun q4 => ?_)
  · refine AW.run X M_checkWord_d 18 3 rfl ?_
    refine AW.callV (As := [.int (nI f), .int (nI w)]) X (M_nameOf_m S M tl f w s e hf hw hb he ⟨by omega, hs.2⟩) cb_M_228 rfl rfl M_nameOf_im M_nameOf_se rfl ⟨Nat.le_of_ble_eq_true rfl, Nat.le_of_ble_eq_true rfl⟩ (Nat.le_of_ble_eq_true rfl) ⟨Nat.le_of_ble_eq_true rfl, Nat.le_of_ble_eq_true rfl⟩ (M_checkWord_d.d 21 rfl) (fun v h' q => ?_)
    obtain ⟨rfl, rfl⟩ := q
    have hnb := nof_z (cw (sgM M f) s e)
    have hnb2 : nof (cw (sgM M f) s e) < 0 → ¬(0 : Int32) ≤ iZ (nof (cw (sgM M f) s e)) := fun z y => by have := (iZ_le (a := 0) (b := nof (cw (sgM M f) s e)) ⟨by decide, by decide⟩ ⟨by omega, by omega⟩).mp y; omega
    have hnb3 : ¬(0 : Int32) ≤ iZ (nof (cw (sgM M f) s e)) → nof (cw (sgM M f) s e) < 0 := fun y => by have := mt (iZ_le (a := 0) (b := nof (cw (sgM M f) s e)) ⟨by decide, by decide⟩ ⟨by omega, by omega⟩).mpr y; omega
    refine AW.if_ge X (M_checkWord_d.d 22 rfl) (fun q22 => ?_) (fun q22 => ?_)
    · exact AW.vret X (M_checkWord_d.d 27 rfl) (Nat.le_of_ble_eq_true rfl) (Nat.le_of_ble_eq_true rfl) ⟨rfl, by rw [show cke (sgM M f) s e = -1 from (if_neg (by rw [(bI_0 _).mp q4]; decide)).trans (if_neg (fun z => hnb2 z q22)), if_pos rfl]⟩
    · refine AW.run X M_checkWord_d 23 3 rfl ?_
      refine AW.callV (As := [.int (Int32.ofInt 4), .int (nI a)]) X (M_show_m S M tl _ _) cb_M_183 rfl rfl M_show_im M_show_se rfl ⟨Nat.le_of_ble_eq_true rfl, Nat.le_of_ble_eq_true rfl⟩ (Nat.le_of_ble_eq_true rfl) ⟨Nat.le_of_ble_eq_true rfl, Nat.le_of_ble_eq_true rfl⟩ (M_checkWord_d.d 26 rfl) (fun v h' q => ?_)
      obtain ⟨rfl, q⟩ := q
      rw [if_pos h7] at q
      subst q
      exact AW.vret X (M_checkWord_d.d 27 rfl) (Nat.le_of_ble_eq_true rfl) (Nat.le_of_ble_eq_true rfl) ⟨rfl, by rw [show cke (sgM M f) s e = 4 from (if_neg (by rw [(bI_0 _).mp q4]; decide)).trans (if_pos (hnb3 q22)), if_neg (by decide)]; rfl⟩
  · refine AW.run X M_checkWord_d 5 4 rfl ?_
    have hN : isn (sgM M f) s e := Classical.byContradiction fun z => q4 (by rw [dc_f z]; rfl)
    refine AW.callV (As := [.int (nI f), .int (nI w), .int (bI false)]) X (M_partOf_m S M tl f w s e false hf hw hb he hs hN) cb_M_222 rfl rfl M_partOf_im M_partOf_se rfl ⟨Nat.le_of_ble_eq_true rfl, Nat.le_of_ble_eq_true rfl⟩ (Nat.le_of_ble_eq_true rfl) ⟨Nat.le_of_ble_eq_true rfl, Nat.le_of_ble_eq_true rfl⟩ (M_checkWord_d.d 9 rfl) (fun v h' q => ?_)
    obtain ⟨rfl, rfl⟩ := q
    rw [show (if false = true then nv (sgM M f) s e else ((nwh (sgM M f) s e : Nat) : Int)) = (nwh (sgM M f) s e : Nat) from rfl]
    have hwl := nwh_le (sgM M f) s e
    refine AW.run X M_checkWord_d 10 2 rfl ?_
    refine AW.if_le X (M_checkWord_d.d 12 rfl) (fun q12 => ?_) (fun q12 => ?_)
    · exact AW.vret X (M_checkWord_d.d 27 rfl) (Nat.le_of_ble_eq_true rfl) (Nat.le_of_ble_eq_true rfl) ⟨rfl, by rw [show cke (sgM M f) s e = -1 from (if_pos (dc_t hN)).trans (if_neg (by have := (lc_le (a := (nwh (sgM M f) s e : Nat)) (b := 16383) ⟨by omega, by omega⟩ ⟨by decide, by decide⟩).mp q12; omega)), if_pos rfl]⟩
    · refine AW.run X M_checkWord_d 13 3 rfl ?_
      refine AW.callV (As := [.int (Int32.ofInt 3), .int (nI a)]) X (M_show_m S M tl _ _) cb_M_183 rfl rfl M_show_im M_show_se rfl ⟨Nat.le_of_ble_eq_true rfl, Nat.le_of_ble_eq_true rfl⟩ (Nat.le_of_ble_eq_true rfl) ⟨Nat.le_of_ble_eq_true rfl, Nat.le_of_ble_eq_true rfl⟩ (M_checkWord_d.d 16 rfl) (fun v h' q => ?_)
      obtain ⟨rfl, q⟩ := q
      rw [if_pos h7] at q
      subst q
      refine AW.goto X (M_checkWord_d.d 17 rfl) ?_
      exact AW.vret X (M_checkWord_d.d 27 rfl) (Nat.le_of_ble_eq_true rfl) (Nat.le_of_ble_eq_true rfl) ⟨rfl, by rw [show cke (sgM M f) s e = 3 from (if_pos (dc_t hN)).trans (if_pos (by have := mt (lc_le (a := (nwh (sgM M f) s e : Nat)) (b := 16383) ⟨by omega, by omega⟩ ⟨by decide, by decide⟩).mpr q12; omega)), if_neg (by decide)]; rfl⟩

