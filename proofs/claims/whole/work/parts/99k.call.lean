/-! CALL: the class and the reference -/
/-- the reference has computed the value -/
def TE (M M' : x_M) (o : Nat) (r : pV) : Prop := ((∀ k, k < 3 ∨ k = 5 → M'.1 k = M.1 k) ∧ ∀ k, k < 10 → M'.2.1 k = M.2.1 k) ∧ (r.1 = -1 → gd M' ∧ ∀ j, j < o → M'.2.2 2 j = lZ (r.2.2 j)) ∧ (r.1 ≠ -1 → iZ r.1 ≠ -1 ∧ M'.1 3 = iZ r.1 ∧ M'.1 4 = nI r.2.1)
def HI (M : x_M) (inp : Nat → Int) : Prop := ∀ k, k < 4 → zN (inp k) ∧ (k ≠ 0 → M.2.1 2 k = iZ (inp k))
theorem TM_n3 {M : x_M} {f o : Nat} {inp : Nat → Int} {r : pV} (h : TM M f inp o r) : M.2.1 4 f ≠ 3 := by
  rcases h with ⟨h, -⟩ | ⟨h, -⟩ | ⟨h, -⟩ <;> rw [h] <;> decide
theorem TM_s {l : Launch} {G : ax_G} (S : x_S) (M : x_M) (tl : List va_E) {f o : Nat} {inp : Nat → Int} {r : pV} (h : TM M f inp o r) (h0 : M.2.1 4 f = 0) (g : gd M) (hI : HI M inp) :
    AM l VV G M_samples_y M_samples_c 13 none 4 0 0 [.ref 153, .int (nI f), .long (lZ (inp 0))] (x_hM S M tl) (fun v h' => v = none ∧ ∃ M', h' = x_hM S M' tl ∧ TE M M' o r) := by
  rcases h with ⟨-, n, wd, q, h24, a1, a2, a3, a4, a5, a6, rfl⟩ | ⟨h2, -⟩ | ⟨h2, -⟩
  · refine (M_samples_m (l := l) (G := G) S M tl f n o wd q inp h24 a1 a2 a3 a4 a5 a6 (fun k hk => hI k (by have := a1.1; omega))).mono (fun v h' hq => ?_)
    obtain ⟨e1, M', e2, e3, e4⟩ := hq
    exact ⟨e1, M', e2, ⟨fun k _ => by rw [e3.1], fun k hk => e3.2.1 k (by omega)⟩, fun _ => ⟨⟨by rw [e3.1]; exact g.1, by rw [e3.1]; exact g.2⟩, e4⟩, fun y => absurd rfl y⟩
  · exact absurd (h0.symm.trans h2) (by decide)
  · exact absurd (h0.symm.trans h2) (by decide)
theorem TM_p {l : Launch} {G : ax_G} (S : x_S) (M : x_M) (tl : List va_E) {f o : Nat} {inp : Nat → Int} {r : pV} (h : TM M f inp o r) (h0 : M.2.1 4 f = 2) (g : gd M) (hI : HI M inp) :
    AM l VV G M_powers_y M_powers_c 11 none 3 0 0 [.ref 153, .int (nI f), .long (lZ (inp 0))] (x_hM S M tl) (fun v h' => v = none ∧ ∃ M', h' = x_hM S M' tl ∧ TE M M' o r) := by
  rcases h with ⟨h2, -⟩ | ⟨-, q, a1, a2, a3, a4, rfl⟩ | ⟨h2, -⟩
  · exact absurd (h0.symm.trans h2) (by decide)
  · refine (M_powers_m (l := l) (G := G) S M tl f o q (inp 0) a1 a2 a3 a4 (hI 0 (by decide)).1).mono (fun v h' hq => ?_)
    obtain ⟨e1, g2, e2, e3⟩ := hq
    exact ⟨e1, y_L M 2 g2, e2, ⟨fun k _ => rfl, fun k _ => rfl⟩, fun _ => ⟨g, fun j hj => by rw [y_Lg]; exact e3 j hj⟩, fun y => absurd rfl y⟩
  · exact absurd (h0.symm.trans h2) (by decide)
theorem TM_g {l : Launch} {G : ax_G} (S : x_S) (M : x_M) (tl : List va_E) {f o : Nat} {inp : Nat → Int} {r : pV} (h : TM M f inp o r) (h0 : M.2.1 4 f ≠ 0) (h2 : M.2.1 4 f ≠ 2) (g : gd M) (hI : HI M inp) :
    AM l VV G M_program_y M_program_c 6 none 9 0 0 [.ref 153, .int (nI f), .long (lZ (inp 0))] (x_hM S M tl) (fun v h' => v = none ∧ ∃ M', h' = x_hM S M' tl ∧ TE M M' o r) := by
  rcases h with ⟨h3, -⟩ | ⟨h3, -⟩ | ⟨-, i, n, k0, q, P0, Q, h24, a1, a2, a3, a4, a5, a6, a7, a8, a9, hr⟩
  · exact absurd h3 h0
  · exact absurd h3 h2
  · rcases hr with ⟨Y, hrun, rfl⟩ | ⟨c, p, hcz, hrun, rfl⟩
    · refine (M_programS_m (l := l) (G := G) S M tl f i o n k0 q inp P0 Q h24 a1 a2 a3 a4 a5 (fun k hk => hI k (by omega)) a6 a7 a8 a9 g Y hrun).mono (fun v h' hq => ?_)
      obtain ⟨e1, M', e2, e3, e4, e5⟩ := hq
      exact ⟨e1, M', e2, ⟨fun k hk => e3.1 k (by omega), fun k hk => e3.2.1 k (by omega)⟩, e4, fun y => ⟨pend_z y, e5 y⟩⟩
    · refine (M_programF_m (l := l) (G := G) S M tl f i o n k0 q inp P0 Q h24 a1 a2 a3 a4 a5 (fun k hk => hI k (by omega)) a6 a7 a8 a9 g c p hcz hrun).mono (fun v h' hq => ?_)
      obtain ⟨e1, M', e2, e3, e4⟩ := hq
      exact ⟨e1, M', e2, ⟨fun k hk => e3.1 k (by omega), fun k hk => e3.2.1 k (by omega)⟩, fun y => absurd (show iZ c = -1 by rw [show c = -1 from y]; rfl) hcz, fun _ => ⟨hcz, e4⟩⟩
/-- the reference has called -/
def MD (M M' : x_M) (o : Nat) (r : pV) : Prop := (M'.1 0 = 0 ∧ (M'.1 1 = M.1 1 ∧ M'.1 2 = M.1 2 ∧ M'.1 5 = M.1 5) ∧ ∀ k, k < 10 → k ≠ 3 → M'.2.1 k = M.2.1 k) ∧ (r.1 = -1 → gd M' ∧ ∀ j, j < 4 → M'.2.1 3 j = if j < o then iZ (r.2.2 j) else 0) ∧ (r.1 ≠ -1 → (M'.1 3 = iZ r.1 ∧ M'.1 4 = nI r.2.1) ∧ M'.2.1 3 = M.2.1 3)
theorem MD_s {M M3 : x_M} {o : Nat} {r : pV} {z : Int32} {g : Nat → Int32} (hE : TE (y_i (mk0 M) 12 z) M3 o r) (hr : r.1 = -1) (hg : ∀ j, j < 4 → g j = if j < o then iZ (r.2.2 j) else 0) : MD M (y_A M3 3 g) o r := by
  refine ⟨⟨(hE.1.1 0 (by decide)).trans rfl, ⟨(hE.1.1 1 (by decide)).trans rfl, (hE.1.1 2 (by decide)).trans rfl, (hE.1.1 5 (by decide)).trans rfl⟩, fun k hk h3 => ?_⟩, fun _ => ⟨(hE.2.1 hr).1, fun j hj => ?_⟩, fun y => absurd hr y⟩
  · show va_up _ 3 g k = _
    unfold va_up
    rw [if_neg h3, hE.1.2 k hk]
    rfl
  · rw [y_Ag]
    exact hg j hj
theorem MD_f {M M3 : x_M} {o : Nat} {r : pV} {z : Int32} (hE : TE (y_i (mk0 M) 12 z) M3 o r) (hr : r.1 ≠ -1) : MD M M3 o r :=
  ⟨⟨(hE.1.1 0 (by decide)).trans rfl, ⟨(hE.1.1 1 (by decide)).trans rfl, (hE.1.1 2 (by decide)).trans rfl, (hE.1.1 5 (by decide)).trans rfl⟩, fun k hk _ => (hE.1.2 k hk).trans rfl⟩, fun y => absurd y hr, fun _ => ⟨(hE.2.2 hr).2, (hE.1.2 3 (by decide)).trans rfl⟩⟩
set_option maxHeartbeats 4000000 in
set_option maxRecDepth 100000 in
theorem N_callS_m {l : Launch} {G : ax_G} (S : x_S) (tl : List va_E) (dd f nf o a : Nat) (x : Int32) (fs : List Value) (hf : f < nf) (hn : nf ≤ 24) (h1 : S.1 1 = nI nf) (ho : 1 ≤ o ∧ o ≤ 4) (hF : S.2.2.1 0 f = some (153 + a)) (hC : tl[a]? = some (.inr (5, fs))) (Pq : x_S → List va_E → Prop) (hQ : ∀ S' tl', Pq S' tl' → f_O (x_hC S' tl') (153 + a) x (nI o)) (hE : AM l VV G S_evaluate_y S_evaluate_c 9 none dd 0 0 [.ref (153 + a), .ref 139, .ref 138, .ref 140] (x_hC (x_i (x_i (x_A S 4 (va_cpy (S.2.1 2) (S.2.1 4) 0 0 4)) 3 (-1)) 4 (-1)) tl) (fun v h' => v = none ∧ ∃ S' tl', h' = x_hC S' tl' ∧ Pq S' tl')) :
    AM l VV G N_call_y N_call_c 4 (some .int) (dd + 1) 0 0 [.ref 132, .int (nI f)] (x_hC S tl) (fun v h' => ∃ S' tl', Pq S' tl' ∧ ((S'.1 3 ≠ -1 ∧ v = some (.int (-1)) ∧ h' = x_hC S' tl') ∨ (S'.1 3 = -1 ∧ v = some (.int (nI o)) ∧ ∃ g, h' = x_hC (x_A S' 3 g) tl' ∧ (∀ j, j < o → g j = S'.2.1 3 j) ∧ ∀ j, o ≤ j → j < 4 → g j = 0))) := by
  refine AM.of (pl := pl_N) (by decide) v_good fl_N_ok kl_N_ok nofun (Nat.le_of_ble_eq_true rfl) ?_
  intro p0v e0v s0v m0v args below meth c0v X
  refine AW.run X N_call_d 0 1 rfl ?_
  refine AW.if_lt X (N_call_d.d 1 rfl) (fun q1 => absurd q1 (nI_pos (by omega))) (fun q1 => ?_)
  refine AW.run X N_call_d 2 3 rfl ?_
  refine AW.icmp_ge X (N_call_d.d 5 rfl) (fun q5 => absurd (cge (a := f) (b := nf) q5 rfl h1) (by omega)) (fun q5 => ?_)
  refine AW.run X N_call_d 6 3 rfl ?_
  refine AW.crl0 (j := f) X rfl (by omega) (N_call_d.d 9 rfl) ?_
  rw [hF]
  refine AW.ifnonnull X (N_call_d.d 10 rfl) ?_
  refine AW.run X N_call_d 16 7 rfl ?_
  refine AW.copyi (t0 := 0) (t := 0) (sp := 0) (dp := 0) (n := 4) (ty := .int) X rfl rfl rfl rfl rfl (by decide) ac_N_123 rfl rfl rfl (by decide) (by decide) (by decide) (by decide) (fun i hi => rfl) (by show 1 ≤ dd + 1; omega) (by show 40 ≤ 40 * (dd + 1); omega) (Nat.le_of_ble_eq_true rfl) (N_call_d.d 23 rfl) ?_
  refine AW.eq (h' := x_hC (x_A S 4 (va_cpy (S.2.1 2) (S.2.1 4) 0 0 4)) tl) rfl ?_
  refine AW.run X N_call_d 24 4 rfl ?_
  refine AW.callV (As := [.int (-1), .int (-1)]) X (U_set_m (x_A S 4 (va_cpy (S.2.1 2) (S.2.1 4) 0 0 4)) tl (-1) (-1)) cb_N_108 rfl rfl U_set_im U_set_se rfl ⟨by show _ ≤ dd + 1; omega, by show _ ≤ 40 * (dd + 1); omega⟩ (Nat.le_of_ble_eq_true rfl) ⟨Nat.le_of_ble_eq_true rfl, Nat.le_of_ble_eq_true rfl⟩ (N_call_d.d 28 rfl) (fun v h' q => ?_)
  obtain ⟨rfl, rfl⟩ := q
  refine AW.run X N_call_d 29 3 rfl ?_
  refine AW.crl0 (j := f) X rfl (by omega) (N_call_d.d 32 rfl) ?_
  rw [show (x_i (x_i (x_A S 4 (va_cpy (S.2.1 2) (S.2.1 4) 0 0 4)) 3 (-1)) 4 (-1)).2.2.1 0 f = some (153 + a) from hF]
  refine AW.run X N_call_d 33 8 rfl ?_
  refine AW.callU (rc := ("NumberFunctions$Samples", Cl_S, 8)) (As := [.ref 139, .ref 138, .ref 140]) X hE cu_N_129_S ((x_tl _ tl a).trans hC) rfl rfl ⟨by show _ ≤ dd + 1; omega, by show _ ≤ 40 * (dd + 1); omega⟩ (Nat.le_of_ble_eq_true rfl) ⟨Nat.le_of_ble_eq_true rfl, Nat.le_of_ble_eq_true rfl⟩ (N_call_d.d 41 rfl) (fun v h' q => ?_)
  obtain ⟨rfl, S2, tl2, rfl, hq⟩ := q
  obtain ⟨ci2, fs2, k1, k2, g1, -, -, -, g5, g6⟩ := hQ S2 tl2 hq
  refine AW.run X N_call_d 42 4 rfl ?_
  refine AW.icmp_eq X (N_call_d.d 46 rfl) (fun q46 => ?_) (fun q46 => ?_)
  · refine AW.run X N_call_d 49 1 rfl ?_
    refine AW.get X g1 g6 g5 (N_call_d.d 50 rfl) ?_
    refine AW.run X N_call_d 51 1 rfl ?_
    have L95 : ∀ (t2 i : Nat) (g : Nat → Int32), o ≤ i → i ≤ 4 → (∀ j, j < o → g j = S2.2.1 3 j) → (∀ j, o ≤ j → j < i → g j = 0) → 4 - i < t2 → AW p0v l e0v (ax_R (dd + 1) 0 0) s0v m0v args below meth c0v VV G 4 (x_hC (x_A S2 3 g) tl2) 0 0 (MQ below (ax_Q VV G (fun v h' => ∃ S' tl', Pq S' tl' ∧ ((S'.1 3 ≠ -1 ∧ v = some (.int (-1)) ∧ h' = x_hC S' tl') ∨ (S'.1 3 = -1 ∧ v = some (.int (nI o)) ∧ ∃ g, h' = x_hC (x_A S' 3 g) tl' ∧ (∀ j, j < o → g j = S'.2.1 3 j) ∧ ∀ j, o ≤ j → j < 4 → g j = 0)))) args s0v 0 0 (fun q => G.bs ≤ q)) 95 [(3, .int (nI i)), (2, .ref (153 + a)), (0, .ref 132), (1, .int (nI f))] [] := by
      intro t2
      induction t2 with
      | zero => intro i g a1 a2 a3 a4 a5; exact absurd a5 (by omega)
      | succ t2 ih =>
        intro i g a1 a2 a3 a4 a5
        refine AW.run X N_call_d 52 2 rfl ?_
        refine AW.icmp_ge X (N_call_d.d 54 rfl) (fun q54 => ?_) (fun q54 => ?_)
        · refine AW.run X N_call_d 62 1 rfl ?_
          refine AW.get X ((x_tl _ tl2 a).trans ((x_tl S2 tl2 a).symm.trans g1)) g6 g5 (N_call_d.d 63 rfl) ?_
          exact AW.iret X (N_call_d.d 64 rfl) (Nat.le_of_ble_eq_true rfl) (Nat.le_of_ble_eq_true rfl) ⟨S2, tl2, hq, Or.inr ⟨q46, rfl, g, rfl, a3, fun j h1 h2 => a4 j h1 (by have := cge (b := 4) q54; omega)⟩⟩
        · have hlt : i < 4 := clt (b := 4) q54
          refine AW.run X N_call_d 55 4 rfl ?_
          refine AW.cs3 (j := i) X rfl (by omega) (N_call_d.d 59 rfl) ?_
          refine AW.run X N_call_d 60 1 rfl ?_
          refine AW.goto X (N_call_d.d 61 rfl) ?_
          rw [x_aA, nI_o1]
          exact ih (i + 1) (upd g i (Int32.ofInt 0)) (by omega) (by omega) (fun j hj => by rw [upd_n (by omega)]; exact a3 j hj) (fun j h1 h2 => by
            by_cases z : j = i
            · rw [z]; exact (upd_s g i _).trans rfl
            · rw [upd_n z]; exact a4 j h1 (by omega)) (by omega)
    exact AW.eq (h' := x_hC (x_A S2 3 (S2.2.1 3)) tl2) (by rw [x_A0]) (L95 5 o (S2.2.1 3) (Nat.le_refl _) (by omega) (fun _ _ => rfl) (fun j h1 h2 => absurd h2 (by omega)) (by omega))
  · refine AW.run X N_call_d 47 1 rfl ?_
    exact AW.iret X (N_call_d.d 48 rfl) (Nat.le_of_ble_eq_true rfl) (Nat.le_of_ble_eq_true rfl) ⟨S2, tl2, hq, Or.inl ⟨q46, rfl, rfl⟩⟩

set_option maxHeartbeats 4000000 in
set_option maxRecDepth 100000 in
theorem N_callP_m {l : Launch} {G : ax_G} (S : x_S) (tl : List va_E) (dd f nf o a : Nat) (x : Int32) (fs : List Value) (hf : f < nf) (hn : nf ≤ 24) (h1 : S.1 1 = nI nf) (ho : 1 ≤ o ∧ o ≤ 4) (hF : S.2.2.1 0 f = some (153 + a)) (hC : tl[a]? = some (.inr (6, fs))) (Pq : x_S → List va_E → Prop) (hQ : ∀ S' tl', Pq S' tl' → f_O (x_hC S' tl') (153 + a) x (nI o)) (hE : AM l VV G P_evaluate_y P_evaluate_c 11 none dd 0 0 [.ref (153 + a), .ref 139, .ref 138, .ref 140] (x_hC (x_i (x_i (x_A S 4 (va_cpy (S.2.1 2) (S.2.1 4) 0 0 4)) 3 (-1)) 4 (-1)) tl) (fun v h' => v = none ∧ ∃ S' tl', h' = x_hC S' tl' ∧ Pq S' tl')) :
    AM l VV G N_call_y N_call_c 4 (some .int) (dd + 1) 0 0 [.ref 132, .int (nI f)] (x_hC S tl) (fun v h' => ∃ S' tl', Pq S' tl' ∧ ((S'.1 3 ≠ -1 ∧ v = some (.int (-1)) ∧ h' = x_hC S' tl') ∨ (S'.1 3 = -1 ∧ v = some (.int (nI o)) ∧ ∃ g, h' = x_hC (x_A S' 3 g) tl' ∧ (∀ j, j < o → g j = S'.2.1 3 j) ∧ ∀ j, o ≤ j → j < 4 → g j = 0))) := by
  refine AM.of (pl := pl_N) (by decide) v_good fl_N_ok kl_N_ok nofun (Nat.le_of_ble_eq_true rfl) ?_
  intro p0v e0v s0v m0v args below meth c0v X
  refine AW.run X N_call_d 0 1 rfl ?_
  refine AW.if_lt X (N_call_d.d 1 rfl) (fun q1 => absurd q1 (nI_pos (by omega))) (fun q1 => ?_)
  refine AW.run X N_call_d 2 3 rfl ?_
  refine AW.icmp_ge X (N_call_d.d 5 rfl) (fun q5 => absurd (cge (a := f) (b := nf) q5 rfl h1) (by omega)) (fun q5 => ?_)
  refine AW.run X N_call_d 6 3 rfl ?_
  refine AW.crl0 (j := f) X rfl (by omega) (N_call_d.d 9 rfl) ?_
  rw [hF]
  refine AW.ifnonnull X (N_call_d.d 10 rfl) ?_
  refine AW.run X N_call_d 16 7 rfl ?_
  refine AW.copyi (t0 := 0) (t := 0) (sp := 0) (dp := 0) (n := 4) (ty := .int) X rfl rfl rfl rfl rfl (by decide) ac_N_123 rfl rfl rfl (by decide) (by decide) (by decide) (by decide) (fun i hi => rfl) (by show 1 ≤ dd + 1; omega) (by show 40 ≤ 40 * (dd + 1); omega) (Nat.le_of_ble_eq_true rfl) (N_call_d.d 23 rfl) ?_
  refine AW.eq (h' := x_hC (x_A S 4 (va_cpy (S.2.1 2) (S.2.1 4) 0 0 4)) tl) rfl ?_
  refine AW.run X N_call_d 24 4 rfl ?_
  refine AW.callV (As := [.int (-1), .int (-1)]) X (U_set_m (x_A S 4 (va_cpy (S.2.1 2) (S.2.1 4) 0 0 4)) tl (-1) (-1)) cb_N_108 rfl rfl U_set_im U_set_se rfl ⟨by show _ ≤ dd + 1; omega, by show _ ≤ 40 * (dd + 1); omega⟩ (Nat.le_of_ble_eq_true rfl) ⟨Nat.le_of_ble_eq_true rfl, Nat.le_of_ble_eq_true rfl⟩ (N_call_d.d 28 rfl) (fun v h' q => ?_)
  obtain ⟨rfl, rfl⟩ := q
  refine AW.run X N_call_d 29 3 rfl ?_
  refine AW.crl0 (j := f) X rfl (by omega) (N_call_d.d 32 rfl) ?_
  rw [show (x_i (x_i (x_A S 4 (va_cpy (S.2.1 2) (S.2.1 4) 0 0 4)) 3 (-1)) 4 (-1)).2.2.1 0 f = some (153 + a) from hF]
  refine AW.run X N_call_d 33 8 rfl ?_
  refine AW.callU (rc := ("NumberFunctions$Powers", Cl_P, 3)) (As := [.ref 139, .ref 138, .ref 140]) X hE cu_N_129_P ((x_tl _ tl a).trans hC) rfl rfl ⟨by show _ ≤ dd + 1; omega, by show _ ≤ 40 * (dd + 1); omega⟩ (Nat.le_of_ble_eq_true rfl) ⟨Nat.le_of_ble_eq_true rfl, Nat.le_of_ble_eq_true rfl⟩ (N_call_d.d 41 rfl) (fun v h' q => ?_)
  obtain ⟨rfl, S2, tl2, rfl, hq⟩ := q
  obtain ⟨ci2, fs2, k1, k2, g1, -, -, -, g5, g6⟩ := hQ S2 tl2 hq
  refine AW.run X N_call_d 42 4 rfl ?_
  refine AW.icmp_eq X (N_call_d.d 46 rfl) (fun q46 => ?_) (fun q46 => ?_)
  · refine AW.run X N_call_d 49 1 rfl ?_
    refine AW.get X g1 g6 g5 (N_call_d.d 50 rfl) ?_
    refine AW.run X N_call_d 51 1 rfl ?_
    have L95 : ∀ (t2 i : Nat) (g : Nat → Int32), o ≤ i → i ≤ 4 → (∀ j, j < o → g j = S2.2.1 3 j) → (∀ j, o ≤ j → j < i → g j = 0) → 4 - i < t2 → AW p0v l e0v (ax_R (dd + 1) 0 0) s0v m0v args below meth c0v VV G 4 (x_hC (x_A S2 3 g) tl2) 0 0 (MQ below (ax_Q VV G (fun v h' => ∃ S' tl', Pq S' tl' ∧ ((S'.1 3 ≠ -1 ∧ v = some (.int (-1)) ∧ h' = x_hC S' tl') ∨ (S'.1 3 = -1 ∧ v = some (.int (nI o)) ∧ ∃ g, h' = x_hC (x_A S' 3 g) tl' ∧ (∀ j, j < o → g j = S'.2.1 3 j) ∧ ∀ j, o ≤ j → j < 4 → g j = 0)))) args s0v 0 0 (fun q => G.bs ≤ q)) 95 [(3, .int (nI i)), (2, .ref (153 + a)), (0, .ref 132), (1, .int (nI f))] [] := by
      intro t2
      induction t2 with
      | zero => intro i g a1 a2 a3 a4 a5; exact absurd a5 (by omega)
      | succ t2 ih =>
        intro i g a1 a2 a3 a4 a5
        refine AW.run X N_call_d 52 2 rfl ?_
        refine AW.icmp_ge X (N_call_d.d 54 rfl) (fun q54 => ?_) (fun q54 => ?_)
        · refine AW.run X N_call_d 62 1 rfl ?_
          refine AW.get X ((x_tl _ tl2 a).trans ((x_tl S2 tl2 a).symm.trans g1)) g6 g5 (N_call_d.d 63 rfl) ?_
          exact AW.iret X (N_call_d.d 64 rfl) (Nat.le_of_ble_eq_true rfl) (Nat.le_of_ble_eq_true rfl) ⟨S2, tl2, hq, Or.inr ⟨q46, rfl, g, rfl, a3, fun j h1 h2 => a4 j h1 (by have := cge (b := 4) q54; omega)⟩⟩
        · have hlt : i < 4 := clt (b := 4) q54
          refine AW.run X N_call_d 55 4 rfl ?_
          refine AW.cs3 (j := i) X rfl (by omega) (N_call_d.d 59 rfl) ?_
          refine AW.run X N_call_d 60 1 rfl ?_
          refine AW.goto X (N_call_d.d 61 rfl) ?_
          rw [x_aA, nI_o1]
          exact ih (i + 1) (upd g i (Int32.ofInt 0)) (by omega) (by omega) (fun j hj => by rw [upd_n (by omega)]; exact a3 j hj) (fun j h1 h2 => by
            by_cases z : j = i
            · rw [z]; exact (upd_s g i _).trans rfl
            · rw [upd_n z]; exact a4 j h1 (by omega)) (by omega)
    exact AW.eq (h' := x_hC (x_A S2 3 (S2.2.1 3)) tl2) (by rw [x_A0]) (L95 5 o (S2.2.1 3) (Nat.le_refl _) (by omega) (fun _ _ => rfl) (fun j h1 h2 => absurd h2 (by omega)) (by omega))
  · refine AW.run X N_call_d 47 1 rfl ?_
    exact AW.iret X (N_call_d.d 48 rfl) (Nat.le_of_ble_eq_true rfl) (Nat.le_of_ble_eq_true rfl) ⟨S2, tl2, hq, Or.inl ⟨q46, rfl, rfl⟩⟩

set_option maxHeartbeats 4000000 in
set_option maxRecDepth 100000 in
theorem N_callZ_m {l : Launch} {G : ax_G} (S : x_S) (tl : List va_E) (dd f nf o a : Nat) (x : Int32) (fs : List Value) (hf : f < nf) (hn : nf ≤ 24) (h1 : S.1 1 = nI nf) (ho : 1 ≤ o ∧ o ≤ 4) (hF : S.2.2.1 0 f = some (153 + a)) (hC : tl[a]? = some (.inr (7, fs))) (Pq : x_S → List va_E → Prop) (hQ : ∀ S' tl', Pq S' tl' → f_O (x_hC S' tl') (153 + a) x (nI o)) (hE : AM l VV G Z_evaluate_y Z_evaluate_c 12 none dd 0 0 [.ref (153 + a), .ref 139, .ref 138, .ref 140] (x_hC (x_i (x_i (x_A S 4 (va_cpy (S.2.1 2) (S.2.1 4) 0 0 4)) 3 (-1)) 4 (-1)) tl) (fun v h' => v = none ∧ ∃ S' tl', h' = x_hC S' tl' ∧ Pq S' tl')) :
    AM l VV G N_call_y N_call_c 4 (some .int) (dd + 1) 0 0 [.ref 132, .int (nI f)] (x_hC S tl) (fun v h' => ∃ S' tl', Pq S' tl' ∧ ((S'.1 3 ≠ -1 ∧ v = some (.int (-1)) ∧ h' = x_hC S' tl') ∨ (S'.1 3 = -1 ∧ v = some (.int (nI o)) ∧ ∃ g, h' = x_hC (x_A S' 3 g) tl' ∧ (∀ j, j < o → g j = S'.2.1 3 j) ∧ ∀ j, o ≤ j → j < 4 → g j = 0))) := by
  refine AM.of (pl := pl_N) (by decide) v_good fl_N_ok kl_N_ok nofun (Nat.le_of_ble_eq_true rfl) ?_
  intro p0v e0v s0v m0v args below meth c0v X
  refine AW.run X N_call_d 0 1 rfl ?_
  refine AW.if_lt X (N_call_d.d 1 rfl) (fun q1 => absurd q1 (nI_pos (by omega))) (fun q1 => ?_)
  refine AW.run X N_call_d 2 3 rfl ?_
  refine AW.icmp_ge X (N_call_d.d 5 rfl) (fun q5 => absurd (cge (a := f) (b := nf) q5 rfl h1) (by omega)) (fun q5 => ?_)
  refine AW.run X N_call_d 6 3 rfl ?_
  refine AW.crl0 (j := f) X rfl (by omega) (N_call_d.d 9 rfl) ?_
  rw [hF]
  refine AW.ifnonnull X (N_call_d.d 10 rfl) ?_
  refine AW.run X N_call_d 16 7 rfl ?_
  refine AW.copyi (t0 := 0) (t := 0) (sp := 0) (dp := 0) (n := 4) (ty := .int) X rfl rfl rfl rfl rfl (by decide) ac_N_123 rfl rfl rfl (by decide) (by decide) (by decide) (by decide) (fun i hi => rfl) (by show 1 ≤ dd + 1; omega) (by show 40 ≤ 40 * (dd + 1); omega) (Nat.le_of_ble_eq_true rfl) (N_call_d.d 23 rfl) ?_
  refine AW.eq (h' := x_hC (x_A S 4 (va_cpy (S.2.1 2) (S.2.1 4) 0 0 4)) tl) rfl ?_
  refine AW.run X N_call_d 24 4 rfl ?_
  refine AW.callV (As := [.int (-1), .int (-1)]) X (U_set_m (x_A S 4 (va_cpy (S.2.1 2) (S.2.1 4) 0 0 4)) tl (-1) (-1)) cb_N_108 rfl rfl U_set_im U_set_se rfl ⟨by show _ ≤ dd + 1; omega, by show _ ≤ 40 * (dd + 1); omega⟩ (Nat.le_of_ble_eq_true rfl) ⟨Nat.le_of_ble_eq_true rfl, Nat.le_of_ble_eq_true rfl⟩ (N_call_d.d 28 rfl) (fun v h' q => ?_)
  obtain ⟨rfl, rfl⟩ := q
  refine AW.run X N_call_d 29 3 rfl ?_
  refine AW.crl0 (j := f) X rfl (by omega) (N_call_d.d 32 rfl) ?_
  rw [show (x_i (x_i (x_A S 4 (va_cpy (S.2.1 2) (S.2.1 4) 0 0 4)) 3 (-1)) 4 (-1)).2.2.1 0 f = some (153 + a) from hF]
  refine AW.run X N_call_d 33 8 rfl ?_
  refine AW.callU (rc := ("NumberFunctions$Stitched", Cl_Z, 4)) (As := [.ref 139, .ref 138, .ref 140]) X hE cu_N_129_Z ((x_tl _ tl a).trans hC) rfl rfl ⟨by show _ ≤ dd + 1; omega, by show _ ≤ 40 * (dd + 1); omega⟩ (Nat.le_of_ble_eq_true rfl) ⟨Nat.le_of_ble_eq_true rfl, Nat.le_of_ble_eq_true rfl⟩ (N_call_d.d 41 rfl) (fun v h' q => ?_)
  obtain ⟨rfl, S2, tl2, rfl, hq⟩ := q
  obtain ⟨ci2, fs2, k1, k2, g1, -, -, -, g5, g6⟩ := hQ S2 tl2 hq
  refine AW.run X N_call_d 42 4 rfl ?_
  refine AW.icmp_eq X (N_call_d.d 46 rfl) (fun q46 => ?_) (fun q46 => ?_)
  · refine AW.run X N_call_d 49 1 rfl ?_
    refine AW.get X g1 g6 g5 (N_call_d.d 50 rfl) ?_
    refine AW.run X N_call_d 51 1 rfl ?_
    have L95 : ∀ (t2 i : Nat) (g : Nat → Int32), o ≤ i → i ≤ 4 → (∀ j, j < o → g j = S2.2.1 3 j) → (∀ j, o ≤ j → j < i → g j = 0) → 4 - i < t2 → AW p0v l e0v (ax_R (dd + 1) 0 0) s0v m0v args below meth c0v VV G 4 (x_hC (x_A S2 3 g) tl2) 0 0 (MQ below (ax_Q VV G (fun v h' => ∃ S' tl', Pq S' tl' ∧ ((S'.1 3 ≠ -1 ∧ v = some (.int (-1)) ∧ h' = x_hC S' tl') ∨ (S'.1 3 = -1 ∧ v = some (.int (nI o)) ∧ ∃ g, h' = x_hC (x_A S' 3 g) tl' ∧ (∀ j, j < o → g j = S'.2.1 3 j) ∧ ∀ j, o ≤ j → j < 4 → g j = 0)))) args s0v 0 0 (fun q => G.bs ≤ q)) 95 [(3, .int (nI i)), (2, .ref (153 + a)), (0, .ref 132), (1, .int (nI f))] [] := by
      intro t2
      induction t2 with
      | zero => intro i g a1 a2 a3 a4 a5; exact absurd a5 (by omega)
      | succ t2 ih =>
        intro i g a1 a2 a3 a4 a5
        refine AW.run X N_call_d 52 2 rfl ?_
        refine AW.icmp_ge X (N_call_d.d 54 rfl) (fun q54 => ?_) (fun q54 => ?_)
        · refine AW.run X N_call_d 62 1 rfl ?_
          refine AW.get X ((x_tl _ tl2 a).trans ((x_tl S2 tl2 a).symm.trans g1)) g6 g5 (N_call_d.d 63 rfl) ?_
          exact AW.iret X (N_call_d.d 64 rfl) (Nat.le_of_ble_eq_true rfl) (Nat.le_of_ble_eq_true rfl) ⟨S2, tl2, hq, Or.inr ⟨q46, rfl, g, rfl, a3, fun j h1 h2 => a4 j h1 (by have := cge (b := 4) q54; omega)⟩⟩
        · have hlt : i < 4 := clt (b := 4) q54
          refine AW.run X N_call_d 55 4 rfl ?_
          refine AW.cs3 (j := i) X rfl (by omega) (N_call_d.d 59 rfl) ?_
          refine AW.run X N_call_d 60 1 rfl ?_
          refine AW.goto X (N_call_d.d 61 rfl) ?_
          rw [x_aA, nI_o1]
          exact ih (i + 1) (upd g i (Int32.ofInt 0)) (by omega) (by omega) (fun j hj => by rw [upd_n (by omega)]; exact a3 j hj) (fun j h1 h2 => by
            by_cases z : j = i
            · rw [z]; exact (upd_s g i _).trans rfl
            · rw [upd_n z]; exact a4 j h1 (by omega)) (by omega)
    exact AW.eq (h' := x_hC (x_A S2 3 (S2.2.1 3)) tl2) (by rw [x_A0]) (L95 5 o (S2.2.1 3) (Nat.le_refl _) (by omega) (fun _ _ => rfl) (fun j h1 h2 => absurd h2 (by omega)) (by omega))
  · refine AW.run X N_call_d 47 1 rfl ?_
    exact AW.iret X (N_call_d.d 48 rfl) (Nat.le_of_ble_eq_true rfl) (Nat.le_of_ble_eq_true rfl) ⟨S2, tl2, hq, Or.inl ⟨q46, rfl, rfl⟩⟩

set_option maxHeartbeats 4000000 in
set_option maxRecDepth 100000 in
theorem N_callG_m {l : Launch} {G : ax_G} (S : x_S) (tl : List va_E) (dd f nf o a : Nat) (x : Int32) (fs : List Value) (hf : f < nf) (hn : nf ≤ 24) (h1 : S.1 1 = nI nf) (ho : 1 ≤ o ∧ o ≤ 4) (hF : S.2.2.1 0 f = some (153 + a)) (hC : tl[a]? = some (.inr (8, fs))) (Pq : x_S → List va_E → Prop) (hQ : ∀ S' tl', Pq S' tl' → f_O (x_hC S' tl') (153 + a) x (nI o)) (hE : AM l VV G G_evaluate_y G_evaluate_c 9 none dd 0 0 [.ref (153 + a), .ref 139, .ref 138, .ref 140] (x_hC (x_i (x_i (x_A S 4 (va_cpy (S.2.1 2) (S.2.1 4) 0 0 4)) 3 (-1)) 4 (-1)) tl) (fun v h' => v = none ∧ ∃ S' tl', h' = x_hC S' tl' ∧ Pq S' tl')) :
    AM l VV G N_call_y N_call_c 4 (some .int) (dd + 1) 0 0 [.ref 132, .int (nI f)] (x_hC S tl) (fun v h' => ∃ S' tl', Pq S' tl' ∧ ((S'.1 3 ≠ -1 ∧ v = some (.int (-1)) ∧ h' = x_hC S' tl') ∨ (S'.1 3 = -1 ∧ v = some (.int (nI o)) ∧ ∃ g, h' = x_hC (x_A S' 3 g) tl' ∧ (∀ j, j < o → g j = S'.2.1 3 j) ∧ ∀ j, o ≤ j → j < 4 → g j = 0))) := by
  refine AM.of (pl := pl_N) (by decide) v_good fl_N_ok kl_N_ok nofun (Nat.le_of_ble_eq_true rfl) ?_
  intro p0v e0v s0v m0v args below meth c0v X
  refine AW.run X N_call_d 0 1 rfl ?_
  refine AW.if_lt X (N_call_d.d 1 rfl) (fun q1 => absurd q1 (nI_pos (by omega))) (fun q1 => ?_)
  refine AW.run X N_call_d 2 3 rfl ?_
  refine AW.icmp_ge X (N_call_d.d 5 rfl) (fun q5 => absurd (cge (a := f) (b := nf) q5 rfl h1) (by omega)) (fun q5 => ?_)
  refine AW.run X N_call_d 6 3 rfl ?_
  refine AW.crl0 (j := f) X rfl (by omega) (N_call_d.d 9 rfl) ?_
  rw [hF]
  refine AW.ifnonnull X (N_call_d.d 10 rfl) ?_
  refine AW.run X N_call_d 16 7 rfl ?_
  refine AW.copyi (t0 := 0) (t := 0) (sp := 0) (dp := 0) (n := 4) (ty := .int) X rfl rfl rfl rfl rfl (by decide) ac_N_123 rfl rfl rfl (by decide) (by decide) (by decide) (by decide) (fun i hi => rfl) (by show 1 ≤ dd + 1; omega) (by show 40 ≤ 40 * (dd + 1); omega) (Nat.le_of_ble_eq_true rfl) (N_call_d.d 23 rfl) ?_
  refine AW.eq (h' := x_hC (x_A S 4 (va_cpy (S.2.1 2) (S.2.1 4) 0 0 4)) tl) rfl ?_
  refine AW.run X N_call_d 24 4 rfl ?_
  refine AW.callV (As := [.int (-1), .int (-1)]) X (U_set_m (x_A S 4 (va_cpy (S.2.1 2) (S.2.1 4) 0 0 4)) tl (-1) (-1)) cb_N_108 rfl rfl U_set_im U_set_se rfl ⟨by show _ ≤ dd + 1; omega, by show _ ≤ 40 * (dd + 1); omega⟩ (Nat.le_of_ble_eq_true rfl) ⟨Nat.le_of_ble_eq_true rfl, Nat.le_of_ble_eq_true rfl⟩ (N_call_d.d 28 rfl) (fun v h' q => ?_)
  obtain ⟨rfl, rfl⟩ := q
  refine AW.run X N_call_d 29 3 rfl ?_
  refine AW.crl0 (j := f) X rfl (by omega) (N_call_d.d 32 rfl) ?_
  rw [show (x_i (x_i (x_A S 4 (va_cpy (S.2.1 2) (S.2.1 4) 0 0 4)) 3 (-1)) 4 (-1)).2.2.1 0 f = some (153 + a) from hF]
  refine AW.run X N_call_d 33 8 rfl ?_
  refine AW.callU (rc := ("NumberFunctions$Program", Cl_G, 9)) (As := [.ref 139, .ref 138, .ref 140]) X hE cu_N_129_G ((x_tl _ tl a).trans hC) rfl rfl ⟨by show _ ≤ dd + 1; omega, by show _ ≤ 40 * (dd + 1); omega⟩ (Nat.le_of_ble_eq_true rfl) ⟨Nat.le_of_ble_eq_true rfl, Nat.le_of_ble_eq_true rfl⟩ (N_call_d.d 41 rfl) (fun v h' q => ?_)
  obtain ⟨rfl, S2, tl2, rfl, hq⟩ := q
  obtain ⟨ci2, fs2, k1, k2, g1, -, -, -, g5, g6⟩ := hQ S2 tl2 hq
  refine AW.run X N_call_d 42 4 rfl ?_
  refine AW.icmp_eq X (N_call_d.d 46 rfl) (fun q46 => ?_) (fun q46 => ?_)
  · refine AW.run X N_call_d 49 1 rfl ?_
    refine AW.get X g1 g6 g5 (N_call_d.d 50 rfl) ?_
    refine AW.run X N_call_d 51 1 rfl ?_
    have L95 : ∀ (t2 i : Nat) (g : Nat → Int32), o ≤ i → i ≤ 4 → (∀ j, j < o → g j = S2.2.1 3 j) → (∀ j, o ≤ j → j < i → g j = 0) → 4 - i < t2 → AW p0v l e0v (ax_R (dd + 1) 0 0) s0v m0v args below meth c0v VV G 4 (x_hC (x_A S2 3 g) tl2) 0 0 (MQ below (ax_Q VV G (fun v h' => ∃ S' tl', Pq S' tl' ∧ ((S'.1 3 ≠ -1 ∧ v = some (.int (-1)) ∧ h' = x_hC S' tl') ∨ (S'.1 3 = -1 ∧ v = some (.int (nI o)) ∧ ∃ g, h' = x_hC (x_A S' 3 g) tl' ∧ (∀ j, j < o → g j = S'.2.1 3 j) ∧ ∀ j, o ≤ j → j < 4 → g j = 0)))) args s0v 0 0 (fun q => G.bs ≤ q)) 95 [(3, .int (nI i)), (2, .ref (153 + a)), (0, .ref 132), (1, .int (nI f))] [] := by
      intro t2
      induction t2 with
      | zero => intro i g a1 a2 a3 a4 a5; exact absurd a5 (by omega)
      | succ t2 ih =>
        intro i g a1 a2 a3 a4 a5
        refine AW.run X N_call_d 52 2 rfl ?_
        refine AW.icmp_ge X (N_call_d.d 54 rfl) (fun q54 => ?_) (fun q54 => ?_)
        · refine AW.run X N_call_d 62 1 rfl ?_
          refine AW.get X ((x_tl _ tl2 a).trans ((x_tl S2 tl2 a).symm.trans g1)) g6 g5 (N_call_d.d 63 rfl) ?_
          exact AW.iret X (N_call_d.d 64 rfl) (Nat.le_of_ble_eq_true rfl) (Nat.le_of_ble_eq_true rfl) ⟨S2, tl2, hq, Or.inr ⟨q46, rfl, g, rfl, a3, fun j h1 h2 => a4 j h1 (by have := cge (b := 4) q54; omega)⟩⟩
        · have hlt : i < 4 := clt (b := 4) q54
          refine AW.run X N_call_d 55 4 rfl ?_
          refine AW.cs3 (j := i) X rfl (by omega) (N_call_d.d 59 rfl) ?_
          refine AW.run X N_call_d 60 1 rfl ?_
          refine AW.goto X (N_call_d.d 61 rfl) ?_
          rw [x_aA, nI_o1]
          exact ih (i + 1) (upd g i (Int32.ofInt 0)) (by omega) (by omega) (fun j hj => by rw [upd_n (by omega)]; exact a3 j hj) (fun j h1 h2 => by
            by_cases z : j = i
            · rw [z]; exact (upd_s g i _).trans rfl
            · rw [upd_n z]; exact a4 j h1 (by omega)) (by omega)
    exact AW.eq (h' := x_hC (x_A S2 3 (S2.2.1 3)) tl2) (by rw [x_A0]) (L95 5 o (S2.2.1 3) (Nat.le_refl _) (by omega) (fun _ _ => rfl) (fun j h1 h2 => absurd h2 (by omega)) (by omega))
  · refine AW.run X N_call_d 47 1 rfl ?_
    exact AW.iret X (N_call_d.d 48 rfl) (Nat.le_of_ble_eq_true rfl) (Nat.le_of_ble_eq_true rfl) ⟨S2, tl2, hq, Or.inl ⟨q46, rfl, rfl⟩⟩

set_option maxHeartbeats 4000000 in
set_option maxRecDepth 100000 in
theorem M_callR_m {l : Launch} {G : ax_G} (S : x_S) (M : x_M) (tl : List va_E) (w : Int32) (nf : Nat) (hn : nf ≤ 24) (h5 : M.1 5 = nI nf) (hw : ¬ (0 ≤ w.toInt ∧ w.toInt ≤ (nf : Int) - 1)) :
    AM l VV G M_call_y M_call_c 6 (some .int) 10 0 0 [.ref 153, .int w] (x_hM S M tl) (fun v h' => v = some (.int 0) ∧ h' = x_hM S (y_i M 0 1) tl) := by
  refine AM.of (pl := pl_M) (by decide) v_good fl_M_ok kl_M_ok nofun (Nat.le_of_ble_eq_true rfl) ?_
  intro p0v e0v s0v m0v args below meth c0v X
  refine AW.run X M_call_d 0 9 rfl ?_
  rw [i_l w, lZ_c0, h5, show (nI nf - Int32.ofInt 1).toInt64 = lZ ((nf : Int) - 1) from by rw [iZ_n, show Int32.ofInt 1 = iZ 1 from rfl, iZ_sub]; exact iZ_l ⟨by omega, by omega⟩]
  refine AW.callS (As := [.long (lZ w.toInt), .long (lZ 0), .long (lZ ((nf : Int) - 1))]) X (M_isIn_m w.toInt 0 ((nf : Int) - 1) (zL_of_i _) ⟨by decide, by decide⟩ ⟨by omega, by omega⟩) cb_M_92 M_isIn_st rfl ⟨Nat.le_of_ble_eq_true rfl, Nat.le_of_ble_eq_true rfl⟩ (Nat.le_of_ble_eq_true rfl) ⟨Nat.le_of_ble_eq_true rfl, Nat.le_of_ble_eq_true rfl⟩ (M_call_d.d 9 rfl) (fun v h' q => ?_)
  obtain ⟨rfl, rfl⟩ := q
  rw [dc_dec]
  refine AW.if_eq X (M_call_d.d 10 rfl) (fun q10 => ?_) (fun q10 => absurd (dq_t.mp q10) hw)
  refine AW.run X M_call_d 13 1 rfl ?_
  refine AW.callV (As := [.int 1]) X (M_refused_m S M tl 1) cb_M_84 rfl rfl M_refused_im M_refused_se rfl ⟨Nat.le_of_ble_eq_true rfl, Nat.le_of_ble_eq_true rfl⟩ (Nat.le_of_ble_eq_true rfl) ⟨Nat.le_of_ble_eq_true rfl, Nat.le_of_ble_eq_true rfl⟩ (M_call_d.d 14 rfl) (fun v h' q => ?_)
  obtain ⟨rfl, rfl⟩ := q
  refine AW.if_eq X (M_call_d.d 15 rfl) (fun q15 => absurd q15 (by decide)) (fun q15 => ?_)
  refine AW.run X M_call_d 16 1 rfl ?_
  exact AW.iret X (M_call_d.d 17 rfl) (Nat.le_of_ble_eq_true rfl) (Nat.le_of_ble_eq_true rfl) ⟨rfl, rfl⟩

set_option maxHeartbeats 4000000 in
set_option maxRecDepth 100000 in
theorem M_call_m {l : Launch} {G : ax_G} (S : x_S) (M : x_M) (tl : List va_E) (f nf o : Nat) (inp : Nat → Int) (r : pV) (hn : nf ≤ 24) (h5 : M.1 5 = nI nf) (hf : f < nf) (h6 : M.2.1 6 f = nI o) (ho : o ≤ 4) (hr : RF M o (f + 1) f inp r) (hin : ∀ k, k < 4 → zN (inp k) ∧ M.2.1 2 k = iZ (inp k)) :
    AM l VV G M_call_y M_call_c 6 (some .int) 10 0 0 [.ref 153, .int (nI f)] (x_hM S M tl) (fun v h' => ∃ M', h' = x_hM S M' tl ∧ MD M M' o r ∧ v = some (.int (if r.1 = -1 then nI o else -1))) := by
  refine AM.of (pl := pl_M) (by decide) v_good fl_M_ok kl_M_ok nofun (Nat.le_of_ble_eq_true rfl) ?_
  intro p0v e0v s0v m0v args below meth c0v X
  refine AW.run X M_call_d 0 9 rfl ?_
  rw [show (nI f).toInt64 = lZ (f : Int) from by rw [iZ_n]; exact iZ_l ⟨by omega, by omega⟩, lZ_c0, h5, show (nI nf - Int32.ofInt 1).toInt64 = lZ ((nf : Int) - 1) from by rw [iZ_n, show Int32.ofInt 1 = iZ 1 from rfl, iZ_sub]; exact iZ_l ⟨by omega, by omega⟩]
  refine AW.callS (As := [.long (lZ (f : Int)), .long (lZ 0), .long (lZ ((nf : Int) - 1))]) X (M_isIn_m (f : Int) 0 ((nf : Int) - 1) ⟨by omega, by omega⟩ ⟨by decide, by decide⟩ ⟨by omega, by omega⟩) cb_M_92 M_isIn_st rfl ⟨Nat.le_of_ble_eq_true rfl, Nat.le_of_ble_eq_true rfl⟩ (Nat.le_of_ble_eq_true rfl) ⟨Nat.le_of_ble_eq_true rfl, Nat.le_of_ble_eq_true rfl⟩ (M_call_d.d 9 rfl) (fun v h' q => ?_)
  obtain ⟨rfl, rfl⟩ := q
  rw [dc_dec]
  refine AW.if_eq X (M_call_d.d 10 rfl) (fun q10 => absurd ⟨by omega, by omega⟩ (dq_f.mp q10)) (fun q10 => ?_)
  refine AW.run X M_call_d 11 1 rfl ?_
  refine AW.goto X (M_call_d.d 12 rfl) ?_
  refine AW.callV (As := [.int 0]) X (M_refused_m S M tl 0) cb_M_84 rfl rfl M_refused_im M_refused_se rfl ⟨Nat.le_of_ble_eq_true rfl, Nat.le_of_ble_eq_true rfl⟩ (Nat.le_of_ble_eq_true rfl) ⟨Nat.le_of_ble_eq_true rfl, Nat.le_of_ble_eq_true rfl⟩ (M_call_d.d 14 rfl) (fun v h' q => ?_)
  obtain ⟨rfl, rfl⟩ := q
  refine AW.if_eq X (M_call_d.d 15 rfl) (fun q15 => ?_) (fun q15 => absurd q15 (by decide))
  refine AW.run X M_call_d 18 3 rfl ?_
  refine AW.callV (As := [.int (-1), .int (-1)]) X (M_tellFault_m S (y_i M 0 0) tl (-1) (-1)) cb_M_153 rfl rfl M_tellFault_im M_tellFault_se rfl ⟨Nat.le_of_ble_eq_true rfl, Nat.le_of_ble_eq_true rfl⟩ (Nat.le_of_ble_eq_true rfl) ⟨Nat.le_of_ble_eq_true rfl, Nat.le_of_ble_eq_true rfl⟩ (M_call_d.d 21 rfl) (fun v h' q => ?_)
  obtain ⟨rfl, rfl⟩ := q
  refine AW.run X M_call_d 22 5 rfl ?_
  refine AW.ml2 (j := 0) X rfl (by decide) (M_call_d.d 27 rfl) ?_
  rw [show (y_i (y_i (y_i M 0 0) 3 (-1)) 4 (-1)).2.1 2 0 = iZ (inp 0) from (hin 0 (by decide)).2]
  refine AW.run X M_call_d 28 1 rfl ?_
  rw [iZ_l (zN_I (hin 0 (by decide)).1)]
  refine AW.run X M_call_d 29 1 rfl ?_
  have L46 : ∀ (fu g : Nat) (ip : Nat → Int) (z : Int32), RF M o fu g ip r → g < 24 → HI M ip → AW p0v l e0v (ax_R 10 0 0) s0v m0v args below meth c0v VV G 6 (x_hM S (y_i (mk0 M) 12 z) tl) 0 0 (MQ below (ax_Q VV G (fun v h' => ∃ M', h' = x_hM S M' tl ∧ MD M M' o r ∧ v = some (.int (if r.1 = -1 then nI o else -1)))) args s0v 0 0 (fun q => G.bs ≤ q)) 46 [(3, .long (lZ (ip 0))), (2, .int (nI g)), (0, .ref 153), (1, .int (nI f))] [] := by
    intro fu
    induction fu with
    | zero => intro g ip z hr; exact absurd hr id
    | succ fu ih =>
      intro g ip z hr hg hI
      have hG : gd (y_i (mk0 M) 12 z) := ⟨rfl, rfl⟩
      refine AW.run X M_call_d 30 3 rfl ?_
      refine AW.ml4 (j := g) X rfl (by omega) (M_call_d.d 33 rfl) ?_
      refine AW.run X M_call_d 34 1 rfl ?_
      refine AW.icmp_ne X (M_call_d.d 35 rfl) (fun q35 => ?_) (fun q35 => ?_)
      · have hT : TM (y_i (mk0 M) 12 z) g ip o r := hr.resolve_right (fun h => q35 h.1)
        refine AW.run X M_call_d 45 3 rfl ?_
        refine AW.ml4 (j := g) X rfl (by omega) (M_call_d.d 48 rfl) ?_
        have J114 : ∀ (M3 : x_M), TE (y_i (mk0 M) 12 z) M3 o r → AW p0v l e0v (ax_R 10 0 0) s0v m0v args below meth c0v VV G 6 (x_hM S M3 tl) 0 0 (MQ below (ax_Q VV G (fun v h' => ∃ M', h' = x_hM S M' tl ∧ MD M M' o r ∧ v = some (.int (if r.1 = -1 then nI o else -1)))) args s0v 0 0 (fun q => G.bs ≤ q)) 114 [(3, .long (lZ (ip 0))), (2, .int (nI g)), (0, .ref 153), (1, .int (nI f))] [] := by
          intro M3 hE
          refine AW.run X M_call_d 70 3 rfl ?_
          refine AW.icmp_eq X (M_call_d.d 73 rfl) (fun q73 => ?_) (fun q73 => ?_)
          · have hr1 : r.1 = -1 := Classical.byContradiction fun y => (hE.2.2 y).1 ((hE.2.2 y).2.1.symm.trans q73)
            refine AW.run X M_call_d 76 2 rfl ?_
            have L127 : ∀ (t2 k2 : Nat) (g2 : Nat → Int32), k2 ≤ 4 → 4 - k2 < t2 → (∀ j, j < k2 → g2 j = if j < o then iZ (r.2.2 j) else 0) → AW p0v l e0v (ax_R 10 0 0) s0v m0v args below meth c0v VV G 6 (x_hM S (y_A M3 3 g2) tl) 0 0 (MQ below (ax_Q VV G (fun v h' => ∃ M', h' = x_hM S M' tl ∧ MD M M' o r ∧ v = some (.int (if r.1 = -1 then nI o else -1)))) args s0v 0 0 (fun q => G.bs ≤ q)) 127 [(5, .int (nI k2)), (3, .long (lZ (ip 0))), (2, .int (nI g)), (0, .ref 153), (1, .int (nI f))] [] := by
              intro t2
              induction t2 with
              | zero => intro k2 g2 a1 a2; exact absurd a2 (by omega)
              | succ t2 ih2 =>
                intro k2 g2 a1 a2 a3
                have hg6 : (y_A M3 3 g2).2.1 6 f = nI o := by
                  show M3.2.1 6 f = nI o
                  rw [hE.1.2 6 (by decide)]
                  exact h6
                refine AW.run X M_call_d 78 2 rfl ?_
                refine AW.icmp_ge X (M_call_d.d 80 rfl) (fun q80 => ?_) (fun q80 => ?_)
                · refine AW.run X M_call_d 100 3 rfl ?_
                  refine AW.ml6 (j := f) X rfl (by omega) (M_call_d.d 103 rfl) ?_
                  rw [hg6]
                  exact AW.iret X (M_call_d.d 104 rfl) (Nat.le_of_ble_eq_true rfl) (Nat.le_of_ble_eq_true rfl) ⟨_, rfl, MD_s hE hr1 (fun j hj => a3 j (by have := cge (b := 4) q80; omega)), by rw [if_pos hr1]⟩
                · have hlt : k2 < 4 := clt (b := 4) q80
                  refine AW.run X M_call_d 81 7 rfl ?_
                  refine AW.ml6 (j := f) X rfl (by omega) (M_call_d.d 88 rfl) ?_
                  rw [hg6]
                  have J162 : ∀ (z2 : Int32), z2 = (if k2 < o then iZ (r.2.2 k2) else 0) → AW p0v l e0v (ax_R 10 0 0) s0v m0v args below meth c0v VV G 6 (x_hM S (y_A M3 3 g2) tl) 0 0 (MQ below (ax_Q VV G (fun v h' => ∃ M', h' = x_hM S M' tl ∧ MD M M' o r ∧ v = some (.int (if r.1 = -1 then nI o else -1)))) args s0v 0 0 (fun q => G.bs ≤ q)) 162 [(5, .int (nI k2)), (3, .long (lZ (ip 0))), (2, .int (nI g)), (0, .ref 153), (1, .int (nI f))] [.int z2, .int (nI k2), .ref 157] := by
                    intro z2 hz
                    refine AW.ms3 (j := k2) X rfl (by omega) (M_call_d.d 97 rfl) ?_
                    refine AW.run X M_call_d 98 1 rfl ?_
                    refine AW.goto X (M_call_d.d 99 rfl) ?_
                    rw [y_aA, nI_o1]
                    exact ih2 (k2 + 1) (upd g2 k2 z2) (by omega) (by omega) (fun j hj => by
                      by_cases y : j = k2
                      · rw [y, upd_s]; exact hz
                      · rw [upd_n y]; exact a3 j (by omega))
                  refine AW.icmp_ge X (M_call_d.d 89 rfl) (fun q89 => ?_) (fun q89 => ?_)
                  · refine AW.run X M_call_d 96 1 rfl ?_
                    exact J162 _ (by rw [if_neg (by have := cge q89; omega)]; rfl)
                  · have hko : k2 < o := clt q89
                    have hgk : (y_A M3 3 g2).2.2 2 k2 = lZ (r.2.2 k2) := (hE.2.1 hr1).2 k2 hko
                    refine AW.run X M_call_d 90 3 rfl ?_
                    refine AW.mll2 (j := k2) X rfl (by omega) (M_call_d.d 93 rfl) ?_
                    rw [hgk]
                    refine AW.run X M_call_d 94 1 rfl ?_
                    rw [lZ_i]
                    refine AW.goto X (M_call_d.d 95 rfl) ?_
                    exact J162 _ (by rw [if_pos hko])
            exact AW.eq (h' := x_hM S (y_A M3 3 (M3.2.1 3)) tl) (by rw [y_A0]) (L127 5 0 (M3.2.1 3) (by omega) (by omega) (fun j hj => absurd hj (Nat.not_lt_zero j)))
          · refine AW.run X M_call_d 74 1 rfl ?_
            exact AW.iret X (M_call_d.d 75 rfl) (Nat.le_of_ble_eq_true rfl) (Nat.le_of_ble_eq_true rfl) (by
              have hr2 : r.1 ≠ -1 := fun y => q73 (hE.2.1 y).1.1
              exact ⟨_, rfl, MD_f hE hr2, by rw [if_neg hr2]; rfl⟩)
        refine AW.if_ne X (M_call_d.d 49 rfl) (fun q49 => ?_) (fun q49 => ?_)
        · refine AW.run X M_call_d 55 3 rfl ?_
          refine AW.ml4 (j := g) X rfl (by omega) (M_call_d.d 58 rfl) ?_
          refine AW.run X M_call_d 59 1 rfl ?_
          refine AW.icmp_ne X (M_call_d.d 60 rfl) (fun q60 => ?_) (fun q60 => ?_)
          · refine AW.run X M_call_d 66 3 rfl ?_
            refine AW.callV (As := [.int (nI g), .long (lZ (ip 0))]) X (TM_g S (y_i (mk0 M) 12 z) tl hT q49 q60 hG hI) cb_M_317 rfl rfl M_program_im M_program_se rfl ⟨Nat.le_of_ble_eq_true rfl, Nat.le_of_ble_eq_true rfl⟩ (Nat.le_of_ble_eq_true rfl) ⟨Nat.le_of_ble_eq_true rfl, Nat.le_of_ble_eq_true rfl⟩ (M_call_d.d 69 rfl) (fun v h' q => ?_)
            obtain ⟨rfl, M4, rfl, hE4⟩ := q
            exact J114 M4 hE4
          · refine AW.run X M_call_d 61 3 rfl ?_
            refine AW.callV (As := [.int (nI g), .long (lZ (ip 0))]) X (TM_p S (y_i (mk0 M) 12 z) tl hT q60 hG hI) cb_M_314 rfl rfl M_powers_im M_powers_se rfl ⟨Nat.le_of_ble_eq_true rfl, Nat.le_of_ble_eq_true rfl⟩ (Nat.le_of_ble_eq_true rfl) ⟨Nat.le_of_ble_eq_true rfl, Nat.le_of_ble_eq_true rfl⟩ (M_call_d.d 64 rfl) (fun v h' q => ?_)
            obtain ⟨rfl, M4, rfl, hE4⟩ := q
            refine AW.goto X (M_call_d.d 65 rfl) ?_
            exact J114 M4 hE4
        · refine AW.run X M_call_d 50 3 rfl ?_
          refine AW.callV (As := [.int (nI g), .long (lZ (ip 0))]) X (TM_s S (y_i (mk0 M) 12 z) tl hT q49 hG hI) cb_M_310 rfl rfl M_samples_im M_samples_se rfl ⟨Nat.le_of_ble_eq_true rfl, Nat.le_of_ble_eq_true rfl⟩ (Nat.le_of_ble_eq_true rfl) ⟨Nat.le_of_ble_eq_true rfl, Nat.le_of_ble_eq_true rfl⟩ (M_call_d.d 53 rfl) (fun v h' q => ?_)
          obtain ⟨rfl, M4, rfl, hE4⟩ := q
          refine AW.goto X (M_call_d.d 54 rfl) ?_
          exact J114 M4 hE4
      · refine AW.run X M_call_d 36 3 rfl ?_
        obtain ⟨h3, qq, K, p, e1, e2, e3, e4, e5, e6, e7, e8⟩ := hr.resolve_left (fun h => TM_n3 h q35)
        refine AW.callV (As := [.int (nI g), .long (lZ (ip 0))]) X (M_stitched_m S (y_i (mk0 M) 12 z) tl g K qq (ip 0) e1 e2 e3 e4 (hI 0 (by decide)).1) cb_M_303 rfl rfl M_stitched_im M_stitched_se rfl ⟨Nat.le_of_ble_eq_true rfl, Nat.le_of_ble_eq_true rfl⟩ (Nat.le_of_ble_eq_true rfl) ⟨Nat.le_of_ble_eq_true rfl, Nat.le_of_ble_eq_true rfl⟩ (M_call_d.d 39 rfl) (fun v h' q => ?_)
        obtain ⟨rfl, rfl⟩ := q
        refine AW.run X M_call_d 40 2 rfl ?_
        refine AW.run X M_call_d 42 1 rfl ?_
        rw [show (y_i (y_i (mk0 M) 12 z) 12 (iZ (qq (3 + zPt qq K (ip 0))))).1 12 = nI p from by rw [y_ig, e5, iZ_n]]
        refine AW.run X M_call_d 43 1 rfl ?_
        refine AW.goto X (M_call_d.d 44 rfl) ?_
        refine AW.pk [1, 0, 2, 3] rfl ?_
        rw [y_ii]
        exact ih p (in0 ip (zSt qq K (ip 0))) _ e8 e6 (fun k hk => by
          unfold in0
          by_cases y : k = 0
          · rw [if_pos y]; exact ⟨e7, fun w => absurd y w⟩
          · rw [if_neg y]; exact hI k hk)
  exact AW.eq (h' := x_hM S (y_i (mk0 M) 12 ((mk0 M).1 12)) tl) (by rw [y_i0]; rfl) (L46 (f + 1) f inp _ hr (by omega) (fun k hk => ⟨(hin k hk).1, fun _ => (hin k hk).2⟩))

