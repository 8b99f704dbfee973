/-! ONE STEP of the reference's run -/
/-- what a word does, as the runs are said -/
noncomputable def pfS (w : Nat) (x : Int) (M : pM) : Int × pM := pS w x M.1 M.2.1 M.2.2
def nx (S : x_S) (tl : List va_E) (M : x_M) (y : Nat × List Nat × pM) (v : Option Value) (h' : List va_E) : Prop := ∃ M', h' = x_hM S M' tl ∧ v = some (.int (nI y.1)) ∧ PF M M' ∧ gd M' ∧ MS M' y.2.2.1 y.2.2.2.1 y.2.2.2.2 ∧ RT M' y.2.1
def nxF (S : x_S) (tl : List va_E) (M : x_M) (c : Int) (p : Nat) (v : Option Value) (h' : List va_E) : Prop := ∃ M', h' = x_hM S M' tl ∧ (∃ x, v = some (.int x)) ∧ PF M M' ∧ M'.1 3 = iZ c ∧ M'.1 4 = nI p
/-- what stands before a step -/
def nxB (M : x_M) (f n : Nat) (Q : pP) (x : Nat × List Nat × pM) : Prop := f < 24 ∧ TK M f n Q ∧ gd M ∧ WS x.2.2.1 x.2.2.2.1 x.2.2.2.2 ∧ MS M x.2.2.1 x.2.2.2.1 x.2.2.2.2 ∧ RT M x.2.1 ∧ x.2.1.length < 20
theorem pup_1 {n : Nat} {u : Nat → Int} {t : Nat → Bool} (hW : WS n u t) (h : (pchoice n u t).1 = -1) : pup (n, u, t) = decide (u (n - 1) = 1) := by
  unfold pchoice at h
  by_cases z : n < 1
  · rw [if_pos z] at h; exact absurd (show (9 : Int) = -1 from h) (by decide)
  · rw [if_neg z] at h
    by_cases y : t (n - 1) = false
    · rw [if_pos y] at h; exact absurd (show (10 : Int) = -1 from h) (by decide)
    · have := (hW.2 (n - 1) (by omega)).2 (Bool.of_not_eq_false y)
      unfold pup
      exact decide_eq_decide.mpr (by show u (n - 1) ≠ 0 ↔ u (n - 1) = 1; omega)

set_option maxHeartbeats 4000000 in
set_option maxRecDepth 100000 in
theorem M_next1_m {l : Launch} {G : ax_G} (S : x_S) (M : x_M) (tl : List va_E) (f w n : Nat) (Q : pP) (hf : f < 24) (hT : TK M f n Q) (hw : w < qn Q) (hc : qc Q w = 1) (ho : M.1 10 = nI 0) :
    AM l VV G M_next_y M_next_c 3 (some .int) 8 0 0 [.ref 153, .int (nI f), .int (nI w)] (x_hM S M tl) (fun v h' => v = some (.int (nI (qn Q))) ∧ h' = x_hM S M tl) := by
  refine AM.of (pl := pl_M) (by decide) v_good fl_M_ok kl_M_ok nofun (Nat.le_of_ble_eq_true rfl) ?_
  intro p0v e0v s0v m0v args below meth c0v X
  refine AW.run X M_next_d 0 3 rfl ?_
  refine AW.ldcW X (List.mem_of_getElem? (i := 45) rfl) (M_next_d.d 3 rfl) ?_
  refine AW.callV (As := [.int (nI f), .int (nI w), .ref 40]) X (M_isWd_m S M tl f w 1 n Q hf hT hw (by decide) (by decide)) cb_M_188 rfl rfl M_isWord_im M_isWord_se rfl ⟨Nat.le_of_ble_eq_true rfl, Nat.le_of_ble_eq_true rfl⟩ (Nat.le_of_ble_eq_true rfl) ⟨Nat.le_of_ble_eq_true rfl, Nat.le_of_ble_eq_true rfl⟩ (M_next_d.d 4 rfl) (fun v h' q => ?_)
  obtain ⟨rfl, rfl⟩ := q
  refine AW.if_eq X (M_next_d.d 5 rfl) (fun q5 => absurd ((bI_0 _).mp q5) (by rw [decide_eq_true hc]; decide)) (fun q5 => ?_)
  refine AW.run X M_next_d 6 2 rfl ?_
  refine AW.if_ne X (M_next_d.d 8 rfl) (fun q8 => absurd ho q8) (fun q8 => ?_)
  refine AW.run X M_next_d 9 2 rfl ?_
  exact AW.iret X (M_next_d.d 11 rfl) (Nat.le_of_ble_eq_true rfl) (Nat.le_of_ble_eq_true rfl) ⟨by rw [hT.1], rfl⟩

set_option maxHeartbeats 4000000 in
set_option maxRecDepth 100000 in
theorem M_next2_m {l : Launch} {G : ax_G} (S : x_S) (M : x_M) (tl : List va_E) (f w n : Nat) (Q : pP) (hf : f < 24) (hT : TK M f n Q) (hw : w < qn Q) (hc : qc Q w = 1) (r : Nat) (st : List Nat) (hR : RT M (r :: st)) (hs : st.length < 20) :
    AM l VV G M_next_y M_next_c 3 (some .int) 8 0 0 [.ref 153, .int (nI f), .int (nI w)] (x_hM S M tl) (fun v h' => v = some (.int (nI r)) ∧ h' = x_hM S (y_i M 10 (M.1 10 - Int32.ofInt 1)) tl) := by
  refine AM.of (pl := pl_M) (by decide) v_good fl_M_ok kl_M_ok nofun (Nat.le_of_ble_eq_true rfl) ?_
  intro p0v e0v s0v m0v args below meth c0v X
  refine AW.run X M_next_d 0 3 rfl ?_
  refine AW.ldcW X (List.mem_of_getElem? (i := 45) rfl) (M_next_d.d 3 rfl) ?_
  refine AW.callV (As := [.int (nI f), .int (nI w), .ref 40]) X (M_isWd_m S M tl f w 1 n Q hf hT hw (by decide) (by decide)) cb_M_188 rfl rfl M_isWord_im M_isWord_se rfl ⟨Nat.le_of_ble_eq_true rfl, Nat.le_of_ble_eq_true rfl⟩ (Nat.le_of_ble_eq_true rfl) ⟨Nat.le_of_ble_eq_true rfl, Nat.le_of_ble_eq_true rfl⟩ (M_next_d.d 4 rfl) (fun v h' q => ?_)
  obtain ⟨rfl, rfl⟩ := q
  refine AW.if_eq X (M_next_d.d 5 rfl) (fun q5 => absurd ((bI_0 _).mp q5) (by rw [decide_eq_true hc]; decide)) (fun q5 => ?_)
  refine AW.run X M_next_d 6 2 rfl ?_
  refine AW.if_ne X (M_next_d.d 8 rfl) (fun q8 => ?_) (fun q8 => absurd q8 (by rw [hR.1, List.length_cons]; exact nI_ne0 (by omega) (by omega)))
  refine AW.run X M_next_d 12 5 rfl ?_
  refine AW.mp10 X (M_next_d.d 17 rfl) ?_
  refine AW.run X M_next_d 18 4 rfl ?_
  refine AW.ml14 (j := st.length) X (by rw [y_ig, hR.1, List.length_cons]; exact pk_sub (b := 1) (by omega)) hs (M_next_d.d 22 rfl) ?_
  rw [show (y_i M 10 (M.1 10 - Int32.ofInt 1)).2.1 14 st.length = nI r from hR.top]
  exact AW.iret X (M_next_d.d 23 rfl) (Nat.le_of_ble_eq_true rfl) (Nat.le_of_ble_eq_true rfl) ⟨rfl, rfl⟩

set_option maxHeartbeats 4000000 in
set_option maxRecDepth 100000 in
theorem M_next3_m {l : Launch} {G : ax_G} (S : x_S) (M : x_M) (tl : List va_E) (f w e g n : Nat) (sl : Bool) (st : List Nat) (Q : pP) (hf : f < 24) (hT : TK M f n Q) (hw : w < qn Q) (hc : qc Q w = 0) (h1 : ism (qc Q) w e) (h2 : decide (qc Q (e + 1) = 37) = sl) (h3 : sl = true → g = e) (h4 : sl = false → ism (qc Q) (e + 1) g) (hg : g + 2 < qn Q) (heg : e ≤ g) (hR : RT M st) (hst : st.length < 20) (n0 : Nat) (u : Nat → Int) (t : Nat → Bool) (hG : gd M) (hW : WS n0 u t) (hM : MS M n0 u t) :
    AM l VV G M_next_y M_next_c 3 (some .int) 8 0 0 [.ref 153, .int (nI f), .int (nI w)] (x_hM S M tl) (fun v h' => ((pchoice n0 u t).1 = -1 ∧ ∃ M', h' = x_hM S M' tl ∧ v = some (.int (nI (if u (n0 - 1) = 1 then w + 1 else if sl = true then g + 2 else e + 2))) ∧ PF M M' ∧ gd M' ∧ MS M' (n0 - 1) u t ∧ RT M' (if u (n0 - 1) = 1 ∨ sl = false then (g + 2) :: st else st)) ∨ ((pchoice n0 u t).1 ≠ -1 ∧ ∃ M', h' = x_hM S M' tl ∧ (∃ x, v = some (.int x)) ∧ PF M M' ∧ M'.1 3 = iZ (pchoice n0 u t).1 ∧ M'.1 4 = nI (g + 1))) := by
  refine AM.of (pl := pl_M) (by decide) v_good fl_M_ok kl_M_ok nofun (Nat.le_of_ble_eq_true rfl) ?_
  intro p0v e0v s0v m0v args below meth c0v X
  refine AW.run X M_next_d 0 3 rfl ?_
  refine AW.ldcW X (List.mem_of_getElem? (i := 45) rfl) (M_next_d.d 3 rfl) ?_
  refine AW.callV (As := [.int (nI f), .int (nI w), .ref 40]) X (M_isWd_m S M tl f w 1 n Q hf hT hw (by decide) (by decide)) cb_M_188 rfl rfl M_isWord_im M_isWord_se rfl ⟨Nat.le_of_ble_eq_true rfl, Nat.le_of_ble_eq_true rfl⟩ (Nat.le_of_ble_eq_true rfl) ⟨Nat.le_of_ble_eq_true rfl, Nat.le_of_ble_eq_true rfl⟩ (M_next_d.d 4 rfl) (fun v h' q => ?_)
  obtain ⟨rfl, rfl⟩ := q
  refine AW.if_eq X (M_next_d.d 5 rfl) (fun q5 => ?_) (fun q5 => absurd ((bI_0 _).mpr (decide_eq_false (show ¬qc Q w = 1 by omega))) q5)
  refine AW.run X M_next_d 24 3 rfl ?_
  refine AW.ldcW X (List.mem_of_getElem? (i := 46) rfl) (M_next_d.d 27 rfl) ?_
  refine AW.callV (As := [.int (nI f), .int (nI w), .ref 39]) X (M_isWd_m S M tl f w 0 n Q hf hT hw (by decide) (by decide)) cb_M_188 rfl rfl M_isWord_im M_isWord_se rfl ⟨Nat.le_of_ble_eq_true rfl, Nat.le_of_ble_eq_true rfl⟩ (Nat.le_of_ble_eq_true rfl) ⟨Nat.le_of_ble_eq_true rfl, Nat.le_of_ble_eq_true rfl⟩ (M_next_d.d 28 rfl) (fun v h' q => ?_)
  obtain ⟨rfl, rfl⟩ := q
  refine AW.if_eq X (M_next_d.d 29 rfl) (fun q29 => absurd ((bI_0 _).mp q29) (by rw [decide_eq_true hc]; decide)) (fun q29 => ?_)
  refine AW.run X M_next_d 30 3 rfl ?_
  refine AW.callV (As := [.int (nI f), .int (nI w)]) X (M_choose_m S M tl f w e g n sl st Q hf hT h1 h2 h3 h4 hg heg hR hst n0 u t hG hW hM) cb_M_379 rfl rfl M_choose_im M_choose_se rfl ⟨Nat.le_of_ble_eq_true rfl, Nat.le_of_ble_eq_true rfl⟩ (Nat.le_of_ble_eq_true rfl) ⟨Nat.le_of_ble_eq_true rfl, Nat.le_of_ble_eq_true rfl⟩ (M_next_d.d 33 rfl) (fun v h' q => ?_)
  rcases q with ⟨hr, M2, rfl, rfl, q⟩ | ⟨hr, M2, rfl, ⟨x, rfl⟩, q⟩
  · exact AW.iret X (M_next_d.d 34 rfl) (Nat.le_of_ble_eq_true rfl) (Nat.le_of_ble_eq_true rfl) (Or.inl ⟨hr, M2, rfl, rfl, q⟩)
  · exact AW.iret X (M_next_d.d 34 rfl) (Nat.le_of_ble_eq_true rfl) (Nat.le_of_ble_eq_true rfl) (Or.inr ⟨hr, M2, rfl, ⟨x, rfl⟩, q⟩)

set_option maxHeartbeats 4000000 in
set_option maxRecDepth 100000 in
theorem M_next4_m {l : Launch} {G : ax_G} (S : x_S) (M : x_M) (tl : List va_E) (f w n : Nat) (Q : pP) (hf : f < 24) (hT : TK M f n Q) (hw : w < qn Q) (hc : qc Q w = 2) (hx : zL (qm Q w)) (n0 : Nat) (u : Nat → Int) (t : Nat → Bool) (hG : gd M) (hW : WS n0 u t) (hM : MS M n0 u t) :
    AM l VV G M_next_y M_next_c 3 (some .int) 8 0 0 [.ref 153, .int (nI f), .int (nI w)] (x_hM S M tl) (fun v h' => v = some (.int (nI (w + 1))) ∧ mp S tl (y_i M 11 (nI w)) (pS 2 (qm Q w) n0 u t) h') := by
  refine AM.of (pl := pl_M) (by decide) v_good fl_M_ok kl_M_ok nofun (Nat.le_of_ble_eq_true rfl) ?_
  intro p0v e0v s0v m0v args below meth c0v X
  refine AW.run X M_next_d 0 3 rfl ?_
  refine AW.ldcW X (List.mem_of_getElem? (i := 45) rfl) (M_next_d.d 3 rfl) ?_
  refine AW.callV (As := [.int (nI f), .int (nI w), .ref 40]) X (M_isWd_m S M tl f w 1 n Q hf hT hw (by decide) (by decide)) cb_M_188 rfl rfl M_isWord_im M_isWord_se rfl ⟨Nat.le_of_ble_eq_true rfl, Nat.le_of_ble_eq_true rfl⟩ (Nat.le_of_ble_eq_true rfl) ⟨Nat.le_of_ble_eq_true rfl, Nat.le_of_ble_eq_true rfl⟩ (M_next_d.d 4 rfl) (fun v h' q => ?_)
  obtain ⟨rfl, rfl⟩ := q
  refine AW.if_eq X (M_next_d.d 5 rfl) (fun q5 => ?_) (fun q5 => absurd ((bI_0 _).mpr (decide_eq_false (show ¬qc Q w = 1 by omega))) q5)
  refine AW.run X M_next_d 24 3 rfl ?_
  refine AW.ldcW X (List.mem_of_getElem? (i := 46) rfl) (M_next_d.d 27 rfl) ?_
  refine AW.callV (As := [.int (nI f), .int (nI w), .ref 39]) X (M_isWd_m S M tl f w 0 n Q hf hT hw (by decide) (by decide)) cb_M_188 rfl rfl M_isWord_im M_isWord_se rfl ⟨Nat.le_of_ble_eq_true rfl, Nat.le_of_ble_eq_true rfl⟩ (Nat.le_of_ble_eq_true rfl) ⟨Nat.le_of_ble_eq_true rfl, Nat.le_of_ble_eq_true rfl⟩ (M_next_d.d 28 rfl) (fun v h' q => ?_)
  obtain ⟨rfl, rfl⟩ := q
  refine AW.if_eq X (M_next_d.d 29 rfl) (fun q29 => ?_) (fun q29 => absurd ((bI_0 _).mpr (decide_eq_false (show ¬qc Q w = 0 by omega))) q29)
  refine AW.run X M_next_d 35 2 rfl ?_
  refine AW.mp11 X (M_next_d.d 37 rfl) ?_
  have hPP : PF M (y_i M 11 (nI w)) := (PF.refl M).i (k := 11) _ (by decide)
  have hTP := hT.pf hPP
  have hGP : gd (y_i M 11 (nI w)) := gd_i (by decide) hG
  have hMP : MS (y_i M 11 (nI w)) n0 u t := hM.fr (y_in M (k := 11) (j := 9) (nI w) (by decide)) rfl rfl
  refine AW.run X M_next_d 38 3 rfl ?_
  refine AW.callV (As := [.int (nI f), .int (nI w)]) X (M_isNm_m S (y_i M 11 (nI w)) tl f w n Q hf hTP hw) cb_M_219 rfl rfl M_isNumber_im M_isNumber_se rfl ⟨Nat.le_of_ble_eq_true rfl, Nat.le_of_ble_eq_true rfl⟩ (Nat.le_of_ble_eq_true rfl) ⟨Nat.le_of_ble_eq_true rfl, Nat.le_of_ble_eq_true rfl⟩ (M_next_d.d 41 rfl) (fun v h' q => ?_)
  obtain ⟨rfl, rfl⟩ := q
  refine AW.if_eq X (M_next_d.d 42 rfl) (fun q42 => absurd ((bI_0 _).mp q42) (by rw [decide_eq_true hc]; decide)) (fun q42 => ?_)
  refine AW.run X M_next_d 43 5 rfl ?_
  refine AW.callV (As := [.int (nI f), .int (nI w), .int (bI true)]) X (M_pof_m S (y_i M 11 (nI w)) tl f w n Q hf hTP hw hc) cb_M_222 rfl rfl M_partOf_im M_partOf_se rfl ⟨Nat.le_of_ble_eq_true rfl, Nat.le_of_ble_eq_true rfl⟩ (Nat.le_of_ble_eq_true rfl) ⟨Nat.le_of_ble_eq_true rfl, Nat.le_of_ble_eq_true rfl⟩ (M_next_d.d 48 rfl) (fun v h' q => ?_)
  obtain ⟨rfl, rfl⟩ := q
  refine AW.callV (As := [.long (lZ (qm Q w))]) X (M_putNumber_m S (y_i M 11 (nI w)) tl n0 u t (qm Q w) hGP hW.1 hMP hx) cb_M_382 rfl rfl M_putNumber_im M_putNumber_se rfl ⟨Nat.le_of_ble_eq_true rfl, Nat.le_of_ble_eq_true rfl⟩ (Nat.le_of_ble_eq_true rfl) ⟨Nat.le_of_ble_eq_true rfl, Nat.le_of_ble_eq_true rfl⟩ (M_next_d.d 49 rfl) (fun v h' q => ?_)
  obtain ⟨rfl, M2, rfl, q⟩ := q
  refine AW.goto X (M_next_d.d 50 rfl) ?_
  refine AW.run X M_next_d 57 3 rfl ?_
  exact AW.iret X (M_next_d.d 60 rfl) (Nat.le_of_ble_eq_true rfl) (Nat.le_of_ble_eq_true rfl) ⟨by rw [nI_o1], M2, rfl, q⟩

set_option maxHeartbeats 4000000 in
set_option maxRecDepth 100000 in
theorem M_next5_m {l : Launch} {G : ax_G} (S : x_S) (M : x_M) (tl : List va_E) (f w n : Nat) (Q : pP) (hf : f < 24) (hT : TK M f n Q) (hw : w < qn Q) (hc : 3 ≤ qc Q w ∧ qc Q w < 37) (n0 : Nat) (u : Nat → Int) (t : Nat → Bool) (hG : gd M) (hW : WS n0 u t) (hM : MS M n0 u t) :
    AM l VV G M_next_y M_next_c 3 (some .int) 8 0 0 [.ref 153, .int (nI f), .int (nI w)] (x_hM S M tl) (fun v h' => v = some (.int (nI (w + 1))) ∧ mp S tl (y_i M 11 (nI w)) (pS (qc Q w) (qm Q w) n0 u t) h') := by
  refine AM.of (pl := pl_M) (by decide) v_good fl_M_ok kl_M_ok nofun (Nat.le_of_ble_eq_true rfl) ?_
  intro p0v e0v s0v m0v args below meth c0v X
  refine AW.run X M_next_d 0 3 rfl ?_
  refine AW.ldcW X (List.mem_of_getElem? (i := 45) rfl) (M_next_d.d 3 rfl) ?_
  refine AW.callV (As := [.int (nI f), .int (nI w), .ref 40]) X (M_isWd_m S M tl f w 1 n Q hf hT hw (by decide) (by decide)) cb_M_188 rfl rfl M_isWord_im M_isWord_se rfl ⟨Nat.le_of_ble_eq_true rfl, Nat.le_of_ble_eq_true rfl⟩ (Nat.le_of_ble_eq_true rfl) ⟨Nat.le_of_ble_eq_true rfl, Nat.le_of_ble_eq_true rfl⟩ (M_next_d.d 4 rfl) (fun v h' q => ?_)
  obtain ⟨rfl, rfl⟩ := q
  refine AW.if_eq X (M_next_d.d 5 rfl) (fun q5 => ?_) (fun q5 => absurd ((bI_0 _).mpr (decide_eq_false (show ¬qc Q w = 1 by omega))) q5)
  refine AW.run X M_next_d 24 3 rfl ?_
  refine AW.ldcW X (List.mem_of_getElem? (i := 46) rfl) (M_next_d.d 27 rfl) ?_
  refine AW.callV (As := [.int (nI f), .int (nI w), .ref 39]) X (M_isWd_m S M tl f w 0 n Q hf hT hw (by decide) (by decide)) cb_M_188 rfl rfl M_isWord_im M_isWord_se rfl ⟨Nat.le_of_ble_eq_true rfl, Nat.le_of_ble_eq_true rfl⟩ (Nat.le_of_ble_eq_true rfl) ⟨Nat.le_of_ble_eq_true rfl, Nat.le_of_ble_eq_true rfl⟩ (M_next_d.d 28 rfl) (fun v h' q => ?_)
  obtain ⟨rfl, rfl⟩ := q
  refine AW.if_eq X (M_next_d.d 29 rfl) (fun q29 => ?_) (fun q29 => absurd ((bI_0 _).mpr (decide_eq_false (show ¬qc Q w = 0 by omega))) q29)
  refine AW.run X M_next_d 35 2 rfl ?_
  refine AW.mp11 X (M_next_d.d 37 rfl) ?_
  have hPP : PF M (y_i M 11 (nI w)) := (PF.refl M).i (k := 11) _ (by decide)
  have hTP := hT.pf hPP
  have hGP : gd (y_i M 11 (nI w)) := gd_i (by decide) hG
  have hMP : MS (y_i M 11 (nI w)) n0 u t := hM.fr (y_in M (k := 11) (j := 9) (nI w) (by decide)) rfl rfl
  refine AW.run X M_next_d 38 3 rfl ?_
  refine AW.callV (As := [.int (nI f), .int (nI w)]) X (M_isNm_m S (y_i M 11 (nI w)) tl f w n Q hf hTP hw) cb_M_219 rfl rfl M_isNumber_im M_isNumber_se rfl ⟨Nat.le_of_ble_eq_true rfl, Nat.le_of_ble_eq_true rfl⟩ (Nat.le_of_ble_eq_true rfl) ⟨Nat.le_of_ble_eq_true rfl, Nat.le_of_ble_eq_true rfl⟩ (M_next_d.d 41 rfl) (fun v h' q => ?_)
  obtain ⟨rfl, rfl⟩ := q
  refine AW.if_eq X (M_next_d.d 42 rfl) (fun q42 => ?_) (fun q42 => absurd ((bI_0 _).mpr (decide_eq_false (show ¬qc Q w = 2 by omega))) q42)
  refine AW.run X M_next_d 51 4 rfl ?_
  refine AW.callV (As := [.int (nI f), .int (nI w)]) X (M_nof_m S (y_i M 11 (nI w)) tl f w n Q hf hTP hw hc.1) cb_M_228 rfl rfl M_nameOf_im M_nameOf_se rfl ⟨Nat.le_of_ble_eq_true rfl, Nat.le_of_ble_eq_true rfl⟩ (Nat.le_of_ble_eq_true rfl) ⟨Nat.le_of_ble_eq_true rfl, Nat.le_of_ble_eq_true rfl⟩ (M_next_d.d 55 rfl) (fun v h' q => ?_)
  obtain ⟨rfl, rfl⟩ := q
  refine AW.callV (As := [.int (iZ (nof (qc Q w)))]) X (M_perf_m S (y_i M 11 (nI w)) tl n0 u t hGP hW hMP (qm Q w) (qc Q w) hc.1 hc.2) cb_M_386 rfl rfl M_perform_im M_perform_se rfl ⟨Nat.le_of_ble_eq_true rfl, Nat.le_of_ble_eq_true rfl⟩ (Nat.le_of_ble_eq_true rfl) ⟨Nat.le_of_ble_eq_true rfl, Nat.le_of_ble_eq_true rfl⟩ (M_next_d.d 56 rfl) (fun v h' q => ?_)
  obtain ⟨rfl, M2, rfl, q⟩ := q
  refine AW.run X M_next_d 57 3 rfl ?_
  exact AW.iret X (M_next_d.d 60 rfl) (Nat.le_of_ble_eq_true rfl) (Nat.le_of_ble_eq_true rfl) ⟨by rw [nI_o1], M2, rfl, q⟩

