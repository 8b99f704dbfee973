theorem pm_dn {P : pP} {w : Nat} (h : ¬pmis P w) : ¬(qd P = 0 ∧ 0 < qn P) := by
  intro z
  apply h
  unfold pmis
  rw [if_pos z.1]; omega
/-- how the reference says whether a word may stand there -/
theorem pm_ok {P : pP} {w : Nat} : dc (¬pmis P w) = !dc (pmis P w) := by
  by_cases h : pmis P w
  · rw [dc_t h, dc_f (fun z => z h)]; rfl
  · rw [dc_f h, dc_t h]; rfl
theorem dz_t {p : Prop} (h : p) : Int32.ofInt 1 = bI (dc p) := by rw [dc_t h]; rfl
theorem dz_f {p : Prop} (h : ¬p) : Int32.ofInt 0 = bI (dc p) := by rw [dc_f h]; rfl
/-- what a reading of the reference leaves -/
def rwQ (M M' : x_M) (n : Nat) (sg : Nat → Nat) (R : Int × Nat × pP) : Prop := RWf M M' ∧ (R.1 = -1 → M'.1 7 = 0 ∧ M'.1 6 = nI (qn R.2.2) ∧ ∀ j, j < qn R.2.2 → ∃ s e, tok sg n R.2.2 j s e ∧ M'.2.1 11 j = nI s ∧ M'.2.1 12 j = nI e) ∧ (R.1 ≠ -1 → M'.1 7 = iZ R.1 ∧ M'.1 8 = nI R.2.1)
theorem rw_E {M M2 : x_M} {n : Nat} {sg : Nat → Nat} {R : Int × Nat × pP} (hF : RWf M M2) (h : rwE M2 R) : rwQ M M2 n sg R := ⟨hF, fun z => absurd z h.1.1, fun _ => h.2⟩
theorem rw_A {M M2 : x_M} {n : Nat} {sg : Nat → Nat} {R : Int × Nat × pP} {P : pP} {k lv : Nat} {dn : Bool} (hF : RWf M M2) (h : (rwR M2 n sg R P k lv dn ∧ n ≤ k) ∨ rwE M2 R) (hd : dn = true) : rwQ M M2 n sg R := by
  rcases h with ⟨hr, hk⟩ | h
  · have hfin : R = (-1, n, P) := by
      rw [← hr.2.2.2.2.2, ws_0 (by omega), prs_end (by omega)]
      have := hr.2.1.2.mp hd
      exact if_neg (by omega)
    rw [hfin]
    exact ⟨hF, fun _ => ⟨hr.1.1, hr.1.2, hr.2.2.2.2.1⟩, fun z => absurd rfl z⟩
  · exact rw_E hF h
theorem rw_B {M M2 : x_M} {n : Nat} {sg : Nat → Nat} {R : Int × Nat × pP} {P : pP} {k lv : Nat} {dn : Bool} (hF : RWf M M2) (h : (rwR M2 n sg R P k lv dn ∧ n ≤ k) ∨ rwE M2 R) (hd : dn = false) {x : Int32} (hx : x = iZ 7) {S : x_S} {tl h' : List va_E} (hh : h' = if M2.1 7 = 0 then x_hM S (y_i (y_i M2 7 x) 8 (nI n)) tl else x_hM S M2 tl) : ∃ M', h' = x_hM S M' tl ∧ rwQ M M' n sg R := by
  rcases h with ⟨hr, hk⟩ | h
  · rw [if_pos hr.1.1] at hh
    refine ⟨_, hh, (hF.i (k := 7) _ (by decide)).i (k := 8) _ (by decide), ?_⟩
    have hfin : R = (7, n, P) := by
      rw [← hr.2.2.2.2.2, ws_0 (by omega), prs_end (by omega)]
      have hz : ¬(qd P = 0 ∧ 0 < qn P) := fun z => by have := hr.2.1.2.mpr z; rw [hd] at this; cases this
      exact if_pos (by omega)
    rw [hfin]
    exact ⟨fun z => absurd (show (7 : Int) = -1 from z) (by decide), fun _ => ⟨((y_in _ (k := 8) (j := 7) _ (by decide)).trans (y_ig _ 7 _)).trans hx, y_ig _ 8 _⟩⟩
  · rw [if_neg h.1.2] at hh
    exact ⟨M2, hh, rw_E hF h⟩
theorem rw_C {M M2 : x_M} {n : Nat} {sg : Nat → Nat} {R : Int × Nat × pP} {P : pP} {k lv : Nat} {dn : Bool} (hF : RWf M M2) (hr : rwR M2 n sg R P k lv dn) (hk : k < n) (hw : ws sg n k = k) (h4 : qn P = 400) {x : Int32} (hx : x = iZ 5) : rwQ M (y_i (y_i M2 7 x) 8 (nI k)) n sg R :=
  rw_E ((hF.i (k := 7) _ (by decide)).i (k := 8) _ (by decide)) (rw_er (c := 5) hr hk hw (perr_5 (by omega)) (by decide) (by decide) (((y_in _ (k := 8) (j := 7) _ (by decide)).trans (y_ig _ 7 _)).trans hx) (y_ig _ 8 _))
theorem perr_o {sg : Nat → Nat} {P : pP} {s e : Nat} (h : qn P < 400) (g : ¬pmis P (cw sg s e)) (k : cw sg s e ≠ 0) : perr sg P s e = if cw sg s e = 39 then nr sg s e else -1 := (if_neg (by omega)).trans ((if_neg (by rw [dc_f g]; decide)).trans (if_neg (by omega)))
/-- a word more, with what is told of the braces -/
def m4 (M2 : x_M) (q k j : Nat) : x_M := y_i (y_a (y_a M2 11 q (nI k)) 12 q (nI j)) 6 (nI q + Int32.ofInt 1)
theorem m4_6 (M2 : x_M) (q k j : Nat) : (m4 M2 q k j).1 6 = nI (q + 1) := (y_ig (y_a (y_a M2 11 q (nI k)) 12 q (nI j)) 6 (nI q + Int32.ofInt 1)).trans (nI_o1 q)
theorem m4_7 (M2 : x_M) (q k j : Nat) : (m4 M2 q k j).1 7 = M2.1 7 := y_in (y_a (y_a M2 11 q (nI k)) 12 q (nI j)) (k := 6) (j := 7) (nI q + Int32.ofInt 1) (by decide)
theorem rw_open {M2 : x_M} {n : Nat} {sg : Nat → Nat} {R : Int × Nat × pP} {P : pP} {k lv : Nat} {dn : Bool} (h : rwR M2 n sg R P k lv dn) (hk : k < n) (hw : ws sg n k = k) (hn : qn P < 400) (hm : ¬pmis P (cw sg k (we sg n k))) (h0 : cw sg k (we sg n k) = 0) (hd : qd P ≠ 12) : rwR (y_a (m4 M2 (qn P) k (we sg n k)) 14 (lv + 1) (Int32.ofInt 0)) n sg R (pput P (wcd sg k (we sg n k)) (wnm sg k (we sg n k))) (we sg n k) (lv + 1) dn := by
  have hd12 := PI_d h.2.2.2.1
  have hlv := h.2.1.1
  have hq : perr sg P k (we sg n k) = -1 := perr_m hn hm (by omega) (fun _ => by omega)
  have hc : wcd sg k (we sg n k) = 0 := by unfold wcd; rw [if_neg (by omega)]; exact h0
  refine rw_go h hk hw hq ((m4_7 M2 (qn P) k (we sg n k)).trans h.1.1) (m4_6 M2 (qn P) k (we sg n k)) rfl rfl ?_ (by rw [hc, pput_d, if_pos rfl, hlv]) ?_
  · rw [hc]
    intro i l1 l2
    show upd (M2.2.1 14) (lv + 1) (nI 0) i = _
    rcases put_w0 i l1 l2 with ⟨z1, z2⟩ | ⟨z1, z2⟩
    · rw [z2, z1, hlv, upd_s]
    · rw [z2, upd_n (by omega)]; exact h.2.2.1 i l1 z1
  · exact ⟨fun z => absurd (h.2.1.2.mp z) (pm_dn hm), fun z => by omega⟩
theorem rw_close {M2 : x_M} {n : Nat} {sg : Nat → Nat} {R : Int × Nat × pP} {P : pP} {k lv : Nat} {dn : Bool} (h : rwR M2 n sg R P k lv dn) (hk : k < n) (hw : ws sg n k = k) (hn : qn P < 400) (hm : ¬pmis P (cw sg k (we sg n k))) (h0 : cw sg k (we sg n k) = 1) {dn2 : Bool} (hd : dn2 = true ↔ lv - 1 = 0) : rwR (y_a (m4 M2 (qn P) k (we sg n k)) 14 (lv - 1) ((m4 M2 (qn P) k (we sg n k)).2.1 14 (lv - 1) + Int32.ofInt 1)) n sg R (pput P (wcd sg k (we sg n k)) (wnm sg k (we sg n k))) (we sg n k) (lv - 1) dn2 := by
  have hlv := h.2.1.1
  have hq : perr sg P k (we sg n k) = -1 := perr_m hn hm (by omega) (fun _ => by omega)
  have hc : wcd sg k (we sg n k) = 1 := by unfold wcd; rw [if_neg (by omega)]; exact h0
  refine rw_go h hk hw hq ((m4_7 M2 (qn P) k (we sg n k)).trans h.1.1) (m4_6 M2 (qn P) k (we sg n k)) rfl rfl ?_ (by rw [hc, pput_d, if_neg (by decide), if_pos rfl, hlv]) hd
  rw [hc]
  intro i l1 l2
  show upd (M2.2.1 14) (lv - 1) (M2.2.1 14 (lv - 1) + Int32.ofInt 1) i = _
  rcases put_w1 i l1 l2 with ⟨z1, z2⟩ | ⟨z1, z2⟩
  · rw [z2, z1, hlv, upd_s, h.2.2.1 (qd P - 1) (by omega) (by omega), nI_o1]
  · rw [z2, upd_n (by omega)]; exact h.2.2.1 i l1 (by omega)
theorem rw_word {M2 : x_M} {n : Nat} {sg : Nat → Nat} {R : Int × Nat × pP} {P : pP} {k lv : Nat} {dn : Bool} (h : rwR M2 n sg R P k lv dn) (hk : k < n) (hw : ws sg n k = k) (hn : qn P < 400) (hm : ¬pmis P (cw sg k (we sg n k))) (h0 : cw sg k (we sg n k) ≠ 0) (h1 : cw sg k (we sg n k) ≠ 1) (hc : cke sg k (we sg n k) = -1) : rwR (y_a (m4 M2 (qn P) k (we sg n k)) 14 lv (Int32.ofInt 0)) n sg R (pput P (wcd sg k (we sg n k)) (wnm sg k (we sg n k))) (we sg n k) lv dn := by
  have hlv := h.2.1.1
  have hl := cw_le sg k (we sg n k)
  have hq : perr sg P k (we sg n k) = -1 := by rw [perr_o hn hm h0, ← cke_e (we_gt sg n k) h0 h1]; exact hc
  have hd : qd P ≠ 0 := fun z => hm (by unfold pmis; rw [if_pos z]; omega)
  have hc0 : wcd sg k (we sg n k) ≠ 0 ∧ wcd sg k (we sg n k) ≠ 1 := by unfold wcd; split <;> omega
  have hz : wcd sg k (we sg n k) < 37 → qw P (qd P) = 0 := by
    intro z
    have m2 := nmis hq
    unfold pmis at m2
    rw [if_neg hd, if_neg (by omega), if_neg (by omega), if_neg hc0.1] at m2
    omega
  obtain ⟨e1, e2⟩ := put_w2 (P := P) (x := wnm sg k (we sg n k)) hc0.1 hc0.2 hz
  refine rw_go h hk hw hq ((m4_7 M2 (qn P) k (we sg n k)).trans h.1.1) (m4_6 M2 (qn P) k (we sg n k)) rfl rfl ?_ (by rw [e1, hlv]) ?_
  · rw [e1]
    intro i l1 l2
    show upd (M2.2.1 14) lv (nI 0) i = _
    rcases e2 i l1 l2 with ⟨z1, z2⟩ | ⟨z1, z2⟩
    · rw [z2, z1, hlv, upd_s]
    · rw [z2, upd_n (by omega)]; exact h.2.2.1 i l1 l2
  · exact ⟨fun z => absurd (h.2.1.2.mp z) (pm_dn hm), fun z => by omega⟩
theorem PI_0 {P : pP} (h : qn P = 0 ∧ qd P = 0) : PI P := by
  refine ⟨by omega, fun j l => by omega, by rw [h.1, h.2]; rfl, fun j l => ?_, Or.inl ⟨h.2, Or.inl h.1⟩⟩
  rw [show j = 0 by omega]; exact (by decide : (0 : Int) ≤ 12)
set_option maxHeartbeats 4000000 in
set_option maxRecDepth 100000 in
theorem M_readWords_m {l : Launch} {G : ax_G} (S : x_S) (M : x_M) (tl : List va_E) (f n : Nat) (P0 : pP) (hf : f < 24) (hn : n ≤ 8192) (hsz : M.2.1 8 f = nI n) (h0 : qn P0 = 0 ∧ qd P0 = 0) :
    AM l VV G M_readWords_y M_readWords_c 13 none 7 0 0 [.ref 153, .int (nI f)] (x_hM S M tl) (fun v h' => v = none ∧ ∃ M', h' = x_hM S M' tl ∧ rwQ M M' n (sgM M f) (prs (sgM M f) n 401 (ws (sgM M f) n 0) P0)) := by
  refine AM.of (pl := pl_M) (by decide) v_good fl_M_ok kl_M_ok nofun (Nat.le_of_ble_eq_true rfl) ?_
  intro p0v e0v s0v m0v args below meth c0v X
  refine AW.run X M_readWords_d 0 2 rfl ?_
  refine AW.mp7 X (M_readWords_d.d 2 rfl) ?_
  refine AW.run X M_readWords_d 3 2 rfl ?_
  refine AW.mp6 X (M_readWords_d.d 5 rfl) ?_
  refine AW.run X M_readWords_d 6 4 rfl ?_
  have L14 : ∀ (t1 j : Nat) (g : Nat → Int32), j ≤ 20 → 20 - j < t1 → AW p0v l e0v (ax_R 7 0 0) s0v m0v args below meth c0v VV G 13 (x_hM S (y_A (y_i (y_i M 7 (Int32.ofInt 0)) 6 (Int32.ofInt 0)) 14 g) tl) 0 0 (MQ below (ax_Q VV G (fun v h' => v = none ∧ ∃ M', h' = x_hM S M' tl ∧ rwQ M M' n (sgM M f) (prs (sgM M f) n 401 (ws (sgM M f) n 0) P0))) args s0v 0 0 (fun q => G.bs ≤ q)) 14 [(3, .int (nI j)), (2, .int (Int32.ofInt 0)), (0, .ref 153), (1, .int (nI f))] [] := by
    intro t1
    induction t1 with
    | zero => intro j g h1 h2; exact absurd h2 (by omega)
    | succ t1 ih1 =>
      intro j g h1 h2
      refine AW.run X M_readWords_d 10 2 rfl ?_
      refine AW.icmp_ge X (M_readWords_d.d 12 rfl) (fun q12 => ?_) (fun q12 => ?_)
      · refine AW.run X M_readWords_d 20 4 rfl ?_
        have L38 : ∀ (t2 k lv : Nat) (dn : Bool) (M2 : x_M) (P : pP), k ≤ n → n - k < t2 → RWf M M2 → (rwR M2 n (sgM M f) (prs (sgM M f) n 401 (ws (sgM M f) n 0) P0) P k lv dn ∨ rwE M2 (prs (sgM M f) n 401 (ws (sgM M f) n 0) P0)) → AW p0v l e0v (ax_R 7 0 0) s0v m0v args below meth c0v VV G 13 (x_hM S M2 tl) 0 0 (MQ below (ax_Q VV G (fun v h' => v = none ∧ ∃ M', h' = x_hM S M' tl ∧ rwQ M M' n (sgM M f) (prs (sgM M f) n 401 (ws (sgM M f) n 0) P0))) args s0v 0 0 (fun q => G.bs ≤ q)) 38 [(4, .int (nI k)), (3, .int (bI dn)), (2, .int (nI lv)), (0, .ref 153), (1, .int (nI f))] [] := by
          intro t2
          induction t2 with
          | zero => intro k lv dn M2 P h1 h2; exact absurd h2 (by omega)
          | succ t2 ih =>
            intro k lv dn M2 P h1 h2 hF hI
            have hsz2 : M2.2.1 8 f = nI n := by rw [hF.2.1 8 (by decide) (by decide) (by decide)]; exact hsz
            have hg : ∀ k, sgn (M2.2.1 9 (8192 * f + k)) = sgM M f k := fun k => by rw [hF.2.1 9 (by decide) (by decide) (by decide)]; rfl
            refine AW.run X M_readWords_d 24 4 rfl ?_
            refine AW.ml8 (j := f) X rfl (by omega) (M_readWords_d.d 28 rfl) ?_
            rw [hsz2]
            have J450 : ∀ (_u : Nat), (rwR M2 n (sgM M f) (prs (sgM M f) n 401 (ws (sgM M f) n 0) P0) P k lv dn ∧ n ≤ k) ∨ rwE M2 (prs (sgM M f) n 401 (ws (sgM M f) n 0) P0) → AW p0v l e0v (ax_R 7 0 0) s0v m0v args below meth c0v VV G 13 (x_hM S M2 tl) 0 0 (MQ below (ax_Q VV G (fun v h' => v = none ∧ ∃ M', h' = x_hM S M' tl ∧ rwQ M M' n (sgM M f) (prs (sgM M f) n 401 (ws (sgM M f) n 0) P0))) args s0v 0 0 (fun q => G.bs ≤ q)) 450 [(4, .int (nI k)), (3, .int (bI dn)), (2, .int (nI lv)), (0, .ref 153), (1, .int (nI f))] [] := by
              intro _u hX
              refine AW.run X M_readWords_d 233 1 rfl ?_
              refine AW.if_ne X (M_readWords_d.d 234 rfl) (fun q234 => ?_) (fun q234 => ?_)
              · exact AW.vret X (M_readWords_d.d 242 rfl) (Nat.le_of_ble_eq_true rfl) (Nat.le_of_ble_eq_true rfl) ⟨rfl, M2, rfl, rw_A hF hX (Bool.of_not_eq_false (fun y => q234 ((bI_0 _).mpr y)))⟩
              · refine AW.run X M_readWords_d 235 5 rfl ?_
                refine AW.ml8 (j := f) X rfl (by omega) (M_readWords_d.d 240 rfl) ?_
                rw [hsz2]
                refine AW.callV (As := [.int ((Int8.ofInt 7).toInt32), .int (nI n)]) X (M_show_m S M2 tl _ _) cb_M_183 rfl rfl M_show_im M_show_se rfl ⟨Nat.le_of_ble_eq_true rfl, Nat.le_of_ble_eq_true rfl⟩ (Nat.le_of_ble_eq_true rfl) ⟨Nat.le_of_ble_eq_true rfl, Nat.le_of_ble_eq_true rfl⟩ (M_readWords_d.d 241 rfl) (fun v h' q => ?_)
                obtain ⟨rfl, q⟩ := q
                exact AW.vret X (M_readWords_d.d 242 rfl) (Nat.le_of_ble_eq_true rfl) (Nat.le_of_ble_eq_true rfl) ⟨rfl, rw_B hF hX ((bI_0 _).mp q234) rfl q⟩
            refine AW.icmp_ge X (M_readWords_d.d 29 rfl) (fun q29 => ?_) (fun q29 => ?_)
            · exact J450 0 (hI.imp (fun z => ⟨z, cge q29⟩) id)
            · refine AW.run X M_readWords_d 30 2 rfl ?_
              refine AW.if_ne X (M_readWords_d.d 32 rfl) (fun q32 => ?_) (fun q32 => ?_)
              · exact J450 0 (Or.inr (hI.resolve_left (fun z => q32 z.1.1)))
              · have hr := hI.resolve_right (fun z => z.1.2 q32)
                have hk : k < n := clt q29
                have hP := hr.2.2.2.1
                have hd := PI_d hP
                have hlv := hr.2.1.1
                refine AW.run X M_readWords_d 33 3 rfl ?_
                refine AW.callV (As := [.int (nI f), .int (nI k)]) X (M_signAt_m S M2 tl f k (by omega)) cb_M_177 rfl rfl M_signAt_im M_signAt_se rfl ⟨Nat.le_of_ble_eq_true rfl, Nat.le_of_ble_eq_true rfl⟩ (Nat.le_of_ble_eq_true rfl) ⟨Nat.le_of_ble_eq_true rfl, Nat.le_of_ble_eq_true rfl⟩ (M_readWords_d.d 36 rfl) (fun v h' q => ?_)
                obtain ⟨rfl, rfl⟩ := q
                rw [sgn_and, show sgn (M2.2.1 9 (8192 * f + k)) = sgM M f k from hg k]
                refine AW.run X M_readWords_d 37 3 rfl ?_
                refine AW.icmp_gt X (M_readWords_d.d 40 rfl) (fun q40 => ?_) (fun q40 => ?_)
                · have hws : ws (sgM M f) n k = k := ws_0 (fun z => absurd z.2 (Nat.not_le.mpr (cgt (a := sgM M f k) (b := 32) q40 rfl (by decide) (by have := sgM_lt M f k; omega))))
                  have hcl := sgM_lt M f k
                  refine AW.run X M_readWords_d 43 4 rfl ?_
                  have L84 : ∀ (t3 j : Nat), k + 1 ≤ j → j ≤ n → ((sgM M f k = 123 ∨ sgM M f k = 125) → j = k + 1) → (¬(sgM M f k = 123 ∨ sgM M f k = 125) → wn (sgM M f) n j = wn (sgM M f) n (k + 1)) → n - j < t3 → AW p0v l e0v (ax_R 7 0 0) s0v m0v args below meth c0v VV G 13 (x_hM S M2 tl) 0 0 (MQ below (ax_Q VV G (fun v h' => v = none ∧ ∃ M', h' = x_hM S M' tl ∧ rwQ M M' n (sgM M f) (prs (sgM M f) n 401 (ws (sgM M f) n 0) P0))) args s0v 0 0 (fun q => G.bs ≤ q)) 84 [(6, .int (nI j)), (5, .int (nI (sgM M f k))), (4, .int (nI k)), (3, .int (bI dn)), (2, .int (nI lv)), (0, .ref 153), (1, .int (nI f))] [] := by
                    intro t3
                    induction t3 with
                    | zero => intro j g1 g2 g3 g4 g5; exact absurd g5 (by omega)
                    | succ t3 ih3 =>
                      intro j g1 g2 g3 g4 g5
                      refine AW.run X M_readWords_d 47 1 rfl ?_
                      refine AW.callS (As := [.int (nI (sgM M f k))]) X (M_isBrace_m _) cb_M_180 M_isBrace_st rfl ⟨Nat.le_of_ble_eq_true rfl, Nat.le_of_ble_eq_true rfl⟩ (Nat.le_of_ble_eq_true rfl) ⟨Nat.le_of_ble_eq_true rfl, Nat.le_of_ble_eq_true rfl⟩ (M_readWords_d.d 48 rfl) (fun v h' q => ?_)
                      obtain ⟨rfl, rfl⟩ := q
                      have J134 : ∀ (_v : Nat), we (sgM M f) n k = j → AW p0v l e0v (ax_R 7 0 0) s0v m0v args below meth c0v VV G 13 (x_hM S M2 tl) 0 0 (MQ below (ax_Q VV G (fun v h' => v = none ∧ ∃ M', h' = x_hM S M' tl ∧ rwQ M M' n (sgM M f) (prs (sgM M f) n 401 (ws (sgM M f) n 0) P0))) args s0v 0 0 (fun q => G.bs ≤ q)) 134 [(6, .int (nI j)), (5, .int (nI (sgM M f k))), (4, .int (nI k)), (3, .int (bI dn)), (2, .int (nI lv)), (0, .ref 153), (1, .int (nI f))] [] := by
                        intro _v hwe
                        refine AW.run X M_readWords_d 70 3 rfl ?_
                        refine AW.icmp_ne X (M_readWords_d.d 73 rfl) (fun q73 => ?_) (fun q73 => ?_)
                        · have hn4 : qn P < 400 := by
                            have := hP.1
                            have : qn P ≠ 400 := fun z => q73 (by rw [hr.1.2, z]; rfl)
                            omega
                          refine AW.run X M_readWords_d 79 5 rfl ?_
                          refine AW.ms11 (j := qn P) X hr.1.2 (by omega) (M_readWords_d.d 84 rfl) ?_
                          refine AW.run X M_readWords_d 85 5 rfl ?_
                          refine AW.ms12 (j := qn P) X hr.1.2 (by omega) (M_readWords_d.d 90 rfl) ?_
                          have hw6 : (y_a (y_a M2 11 (qn P) (nI k)) 12 (qn P) (nI j)).1 6 = nI (qn P) := hr.1.2
                          have hb3 : (y_a (y_a M2 11 (qn P) (nI k)) 12 (qn P) (nI j)).2.1 11 (qn P) = nI k := by rw [y_an _ _ _ (by decide), y_ag, upd_s]
                          have he3 : (y_a (y_a M2 11 (qn P) (nI k)) 12 (qn P) (nI j)).2.1 12 (qn P) = nI j := by rw [y_ag, upd_s]
                          have hg3 : sgM (y_a (y_a M2 11 (qn P) (nI k)) 12 (qn P) (nI j)) f = sgM M f := by funext i; exact hg i
                          have h70 : (y_a (y_a M2 11 (qn P) (nI k)) 12 (qn P) (nI j)).1 7 = 0 := q32
                          refine AW.run X M_readWords_d 91 2 rfl ?_
                          have J186 : ∀ (z : Int32), z = bI (decide (sgM M f k = 123)) → AW p0v l e0v (ax_R 7 0 0) s0v m0v args below meth c0v VV G 13 (x_hM S (y_a (y_a M2 11 (qn P) (nI k)) 12 (qn P) (nI j)) tl) 0 0 (MQ below (ax_Q VV G (fun v h' => v = none ∧ ∃ M', h' = x_hM S M' tl ∧ rwQ M M' n (sgM M f) (prs (sgM M f) n 401 (ws (sgM M f) n 0) P0))) args s0v 0 0 (fun q => G.bs ≤ q)) 186 [(6, .int (nI j)), (5, .int (nI (sgM M f k))), (4, .int (nI k)), (3, .int (bI dn)), (2, .int (nI lv)), (0, .ref 153), (1, .int (nI f))] [.int z] := by
                            intro z hz; subst hz
                            refine AW.run X M_readWords_d 97 3 rfl ?_
                            have J200 : ∀ (z : Int32), z = bI (decide (sgM M f k = 125)) → AW p0v l e0v (ax_R 7 0 0) s0v m0v args below meth c0v VV G 13 (x_hM S (y_a (y_a M2 11 (qn P) (nI k)) 12 (qn P) (nI j)) tl) 0 0 (MQ below (ax_Q VV G (fun v h' => v = none ∧ ∃ M', h' = x_hM S M' tl ∧ rwQ M M' n (sgM M f) (prs (sgM M f) n 401 (ws (sgM M f) n 0) P0))) args s0v 0 0 (fun q => G.bs ≤ q)) 200 [(7, .int (bI (decide (sgM M f k = 123)))), (6, .int (nI j)), (5, .int (nI (sgM M f k))), (4, .int (nI k)), (3, .int (bI dn)), (2, .int (nI lv)), (0, .ref 153), (1, .int (nI f))] [.int z] := by
                              intro z hz; subst hz
                              refine AW.run X M_readWords_d 104 4 rfl ?_
                              refine AW.run X M_readWords_d 108 1 rfl ?_
                              rw [hw6]
                              refine AW.ldcS X (List.mem_of_getElem? (i := 9) rfl) (M_readWords_d.d 109 rfl) ?_
                              refine AW.callV (As := [.int (nI f), .int (nI (qn P)), .ref 76]) X (M_isWord_m S (y_a (y_a M2 11 (qn P) (nI k)) 12 (qn P) (nI j)) tl f (qn P) 37 k j hf (by omega) (by decide) hb3 he3 ⟨by omega, by omega⟩) cb_M_188 rfl rfl M_isWord_im M_isWord_se rfl ⟨Nat.le_of_ble_eq_true rfl, Nat.le_of_ble_eq_true rfl⟩ (Nat.le_of_ble_eq_true rfl) ⟨Nat.le_of_ble_eq_true rfl, Nat.le_of_ble_eq_true rfl⟩ (M_readWords_d.d 110 rfl) (fun v h' q => ?_)
                              obtain ⟨rfl, rfl⟩ := q
                              rw [hg3, cw_i (by decide)]
                              refine AW.run X M_readWords_d 111 4 rfl ?_
                              refine AW.run X M_readWords_d 115 1 rfl ?_
                              rw [hw6]
                              refine AW.ldcS X (List.mem_of_getElem? (i := 10) rfl) (M_readWords_d.d 116 rfl) ?_
                              refine AW.callV (As := [.int (nI f), .int (nI (qn P)), .ref 77]) X (M_isWord_m S (y_a (y_a M2 11 (qn P) (nI k)) 12 (qn P) (nI j)) tl f (qn P) 38 k j hf (by omega) (by decide) hb3 he3 ⟨by omega, by omega⟩) cb_M_188 rfl rfl M_isWord_im M_isWord_se rfl ⟨Nat.le_of_ble_eq_true rfl, Nat.le_of_ble_eq_true rfl⟩ (Nat.le_of_ble_eq_true rfl) ⟨Nat.le_of_ble_eq_true rfl, Nat.le_of_ble_eq_true rfl⟩ (M_readWords_d.d 117 rfl) (fun v h' q => ?_)
                              obtain ⟨rfl, rfl⟩ := q
                              rw [hg3, cw_i (by decide)]
                              refine AW.run X M_readWords_d 118 4 rfl ?_
                              refine AW.ml14 (j := lv) X rfl (by omega) (M_readWords_d.d 122 rfl) ?_
                              refine AW.run X M_readWords_d 123 1 rfl ?_
                              have hqw : 1 ≤ lv → (y_a (y_a M2 11 (qn P) (nI k)) 12 (qn P) (nI j)).2.1 14 lv = nI (qw P (qd P)) := fun z => by rw [y_an _ _ _ (by decide), y_an _ _ _ (by decide), hr.2.2.1 lv z (by omega), hlv]
                              have hq2 : 1 ≤ lv → qw P (qd P) ≤ 2 := fun z => qw_b hP (by omega)
                              have hi0 := (show cw (sgM M f) k j = 0 ↔ sgM M f k = 123 from (by rw [← hwe]; exact cw_0))
                              have hi1 := (show cw (sgM M f) k j = 1 ↔ sgM M f k = 125 from (by rw [← hwe]; exact cw_1))
                              refine AW.run X M_readWords_d 124 1 rfl ?_
                              have J324 : ∀ (z : Int32), z = bI (dc (¬pmis P (cw (sgM M f) k j))) → AW p0v l e0v (ax_R 7 0 0) s0v m0v args below meth c0v VV G 13 (x_hM S (y_a (y_a M2 11 (qn P) (nI k)) 12 (qn P) (nI j)) tl) 0 0 (MQ below (ax_Q VV G (fun v h' => v = none ∧ ∃ M', h' = x_hM S M' tl ∧ rwQ M M' n (sgM M f) (prs (sgM M f) n 401 (ws (sgM M f) n 0) P0))) args s0v 0 0 (fun q => G.bs ≤ q)) 324 [(11, .int ((y_a (y_a M2 11 (qn P) (nI k)) 12 (qn P) (nI j)).2.1 14 lv)), (10, .int (bI (decide (cw (sgM M f) k j = 38)))), (9, .int (bI (decide (cw (sgM M f) k j = 37)))), (8, .int (bI (decide (sgM M f k = 125)))), (7, .int (bI (decide (sgM M f k = 123)))), (6, .int (nI j)), (5, .int (nI (sgM M f k))), (4, .int (nI k)), (3, .int (bI dn)), (2, .int (nI lv)), (0, .ref 153), (1, .int (nI f))] [.int z] := by
                                intro z hz; subst hz
                                refine AW.run X M_readWords_d 166 3 rfl ?_
                                refine AW.run X M_readWords_d 169 1 rfl ?_
                                rw [hw6]
                                refine AW.run X M_readWords_d 170 2 rfl ?_
                                refine AW.mp6 X (M_readWords_d.d 172 rfl) ?_
                                refine AW.run X M_readWords_d 173 1 rfl ?_
                                have h70 : (y_i (y_a (y_a M2 11 (qn P) (nI k)) 12 (qn P) (nI j)) 6 (nI (qn P) + Int32.ofInt 1)).1 7 = 0 := (y_in _ _ (by decide)).trans q32
                                have J443 : ∀ (lv2 : Nat) (dn2 : Bool) (M5 : x_M) (P2 : pP), RWf M M5 → (rwR M5 n (sgM M f) (prs (sgM M f) n 401 (ws (sgM M f) n 0) P0) P2 j lv2 dn2 ∨ rwE M5 (prs (sgM M f) n 401 (ws (sgM M f) n 0) P0)) → AW p0v l e0v (ax_R 7 0 0) s0v m0v args below meth c0v VV G 13 (x_hM S M5 tl) 0 0 (MQ below (ax_Q VV G (fun v h' => v = none ∧ ∃ M', h' = x_hM S M' tl ∧ rwQ M M' n (sgM M f) (prs (sgM M f) n 401 (ws (sgM M f) n 0) P0))) args s0v 0 0 (fun q => G.bs ≤ q)) 443 [(6, .int (nI j)), (4, .int (nI k)), (3, .int (bI dn2)), (2, .int (nI lv2)), (0, .ref 153), (1, .int (nI f))] [] := by
                                  intro lv2 dn2 M5 P2 hF5 hI5
                                  refine AW.run X M_readWords_d 230 2 rfl ?_
                                  refine AW.goto X (M_readWords_d.d 232 rfl) ?_
                                  refine AW.pk [0, 2, 3, 4, 5] rfl ?_
                                  exact ih j lv2 dn2 M5 P2 (by omega) (by omega) hF5 hI5
                                refine AW.if_ne X (M_readWords_d.d 174 rfl) (fun q174 => ?_) (fun q174 => ?_)
                                · have hnm : ¬pmis P (cw (sgM M f) k j) := Classical.byContradiction fun z => q174 (by rw [dc_f z]; rfl)
                                  have hdn : dn = false := Bool.eq_false_iff.mpr (fun z => pm_dn hnm (hr.2.1.2.mp z))
                                  refine AW.run X M_readWords_d 180 1 rfl ?_
                                  have J374 : ∀ (_w : Nat), (cw (sgM M f) k j = 0 → qd P ≠ 12) → AW p0v l e0v (ax_R 7 0 0) s0v m0v args below meth c0v VV G 13 (x_hM S (y_i (y_a (y_a M2 11 (qn P) (nI k)) 12 (qn P) (nI j)) 6 ((nI (qn P)) + (Int32.ofInt 1))) tl) 0 0 (MQ below (ax_Q VV G (fun v h' => v = none ∧ ∃ M', h' = x_hM S M' tl ∧ rwQ M M' n (sgM M f) (prs (sgM M f) n 401 (ws (sgM M f) n 0) P0))) args s0v 0 0 (fun q => G.bs ≤ q)) 374 [(12, .int (bI (dc (¬pmis P (cw (sgM M f) k j))))), (11, .int ((y_a (y_a M2 11 (qn P) (nI k)) 12 (qn P) (nI j)).2.1 14 lv)), (10, .int (bI (decide (cw (sgM M f) k j = 38)))), (9, .int (bI (decide (cw (sgM M f) k j = 37)))), (8, .int (bI (decide (sgM M f k = 125)))), (7, .int (bI (decide (sgM M f k = 123)))), (6, .int (nI j)), (5, .int (nI (sgM M f k))), (4, .int (nI k)), (3, .int (bI dn)), (2, .int (nI lv)), (0, .ref 153), (1, .int (nI f))] [] := by
                                    intro _w h12
                                    refine AW.run X M_readWords_d 190 1 rfl ?_
                                    refine AW.if_eq X (M_readWords_d.d 191 rfl) (fun q191 => ?_) (fun q191 => ?_)
                                    · refine AW.run X M_readWords_d 199 1 rfl ?_
                                      refine AW.if_eq X (M_readWords_d.d 200 rfl) (fun q200 => ?_) (fun q200 => ?_)
                                      · have hW0 : cw (sgM M f) k j ≠ 0 := fun z => (of_decide_eq_false ((bI_0 _).mp q191)) (hi0.mp z)
                                        have hW1 : cw (sgM M f) k j ≠ 1 := fun z => (of_decide_eq_false ((bI_0 _).mp q200)) (hi1.mp z)
                                        refine AW.run X M_readWords_d 217 4 rfl ?_
                                        refine AW.ms14 (j := lv) X rfl (by omega) (M_readWords_d.d 221 rfl) ?_
                                        refine AW.run X M_readWords_d 222 3 rfl ?_
                                        refine AW.run X M_readWords_d 225 3 rfl ?_
                                        rw [show (y_a (y_i (y_a (y_a M2 11 (qn P) (nI k)) 12 (qn P) (nI j)) 6 (nI (qn P) + Int32.ofInt 1)) 14 lv (Int32.ofInt 0)).1 6 - Int32.ofInt 1 = nI (qn P) from by rw [show (y_a (y_i (y_a (y_a M2 11 (qn P) (nI k)) 12 (qn P) (nI j)) 6 (nI (qn P) + Int32.ofInt 1)) 14 lv (Int32.ofInt 0)).1 6 = nI (qn P) + Int32.ofInt 1 from y_ig (y_a (y_a M2 11 (qn P) (nI k)) 12 (qn P) (nI j)) 6 (nI (qn P) + Int32.ofInt 1), nI_o1]; exact pk_sub (b := 1) (by omega)]
                                        refine AW.run X M_readWords_d 228 1 rfl ?_
                                        refine AW.callV (As := [.int (nI f), .int (nI (qn P)), .int (nI k)]) X (M_checkWord_m S (y_a (y_i (y_a (y_a M2 11 (qn P) (nI k)) 12 (qn P) (nI j)) 6 (nI (qn P) + Int32.ofInt 1)) 14 lv (Int32.ofInt 0)) tl f (qn P) k j k hf (by omega) hb3 he3 ⟨by omega, by omega⟩ h70) cb_M_194 rfl rfl M_checkWord_im M_checkWord_se rfl ⟨Nat.le_of_ble_eq_true rfl, Nat.le_of_ble_eq_true rfl⟩ (Nat.le_of_ble_eq_true rfl) ⟨Nat.le_of_ble_eq_true rfl, Nat.le_of_ble_eq_true rfl⟩ (M_readWords_d.d 229 rfl) (fun v h' q => ?_)
                                        obtain ⟨rfl, rfl⟩ := q
                                        rw [show sgM (y_a (y_i (y_a (y_a M2 11 (qn P) (nI k)) 12 (qn P) (nI j)) 6 (nI (qn P) + Int32.ofInt 1)) 14 lv (Int32.ofInt 0)) f = sgM M f from hg3]
                                        refine AW.pk [6, 8, 9, 10, 11, 12] rfl ?_
                                        rcases Classical.em (cke (sgM M f) k j = -1) with hck | hck
                                        · rw [if_pos hck]
                                          exact J443 lv dn _ (pput P (wcd (sgM M f) k j) (wnm (sgM M f) k j)) ((((hF.a (k := 11) (qn P) (nI k) (Or.inl rfl)).a (k := 12) (qn P) (nI j) (Or.inr (Or.inl rfl))).i (k := 6) (nI (qn P) + Int32.ofInt 1) (by decide)).a (k := 14) lv (Int32.ofInt 0) (Or.inr (Or.inr rfl))) (Or.inl (by subst hwe; exact rw_word hr hk hws hn4 hnm hW0 hW1 hck))
                                        exact (by
                                          rw [if_neg hck]
                                          exact J443 lv dn _ P ((((((hF.a (k := 11) (qn P) (nI k) (Or.inl rfl)).a (k := 12) (qn P) (nI j) (Or.inr (Or.inl rfl))).i (k := 6) (nI (qn P) + Int32.ofInt 1) (by decide)).a (k := 14) lv (Int32.ofInt 0) (Or.inr (Or.inr rfl))).i (k := 7) _ (by decide)).i (k := 8) _ (by decide)) (Or.inr (by
                                            subst hwe
                                            exact rw_er hr hk hws ((perr_o hn4 hnm hW0).trans (cke_e (we_gt _ _ _) hW0 hW1).symm) hck (by rcases cke_b (sgM M f) k (we (sgM M f) n k) with z | z | z <;> rw [z] <;> decide) ((y_in _ (k := 8) (j := 7) _ (by decide)).trans (y_ig _ 7 _)) (y_ig _ 8 _))))
                                      · have hW1 : cw (sgM M f) k j = 1 := hi1.mpr (of_decide_eq_true (Bool.of_not_eq_false (fun y => q200 ((bI_0 _).mpr y))))
                                        have hd1 : 1 ≤ qd P := (PI_pre hP hnm).1 hW1 |>.1
                                        have hsub : nI lv + Int32.ofInt (-1) = nI (lv - 1) := by
                                          have := pk_m1 (lv - 1)
                                          rw [show lv - 1 + 1 = lv by omega] at this
                                          exact this
                                        refine AW.run X M_readWords_d 201 5 rfl ?_
                                        refine AW.ml14 (j := lv - 1) X hsub (by omega) (M_readWords_d.d 206 rfl) ?_
                                        refine AW.run X M_readWords_d 207 2 rfl ?_
                                        refine AW.ms14 (j := lv - 1) X hsub (by omega) (M_readWords_d.d 209 rfl) ?_
                                        refine AW.run X M_readWords_d 210 1 rfl ?_
                                        refine AW.if_ne X (M_readWords_d.d 211 rfl) (fun q211 => ?_) (fun q211 => ?_)
                                        · refine AW.run X M_readWords_d 214 2 rfl ?_
                                          refine AW.goto X (M_readWords_d.d 216 rfl) ?_
                                          refine AW.pk [8, 10, 0, 1, 11, 12] rfl ?_
                                          rw [hsub]
                                          exact J443 (lv - 1) false _ (pput P (wcd (sgM M f) k j) (wnm (sgM M f) k j)) ((((hF.a (k := 11) (qn P) (nI k) (Or.inl rfl)).a (k := 12) (qn P) (nI j) (Or.inr (Or.inl rfl))).i (k := 6) (nI (qn P) + Int32.ofInt 1) (by decide)).a (k := 14) (lv - 1) _ (Or.inr (Or.inr rfl))) (Or.inl (by subst hwe; exact rw_close hr hk hws hn4 hnm hW1 ⟨fun z => (by cases z), fun z => absurd (by rw [hsub, z]; rfl) q211⟩))
                                        · refine AW.run X M_readWords_d 212 1 rfl ?_
                                          refine AW.goto X (M_readWords_d.d 213 rfl) ?_
                                          refine AW.run X M_readWords_d 215 1 rfl ?_
                                          refine AW.goto X (M_readWords_d.d 216 rfl) ?_
                                          refine AW.pk [8, 10, 0, 1, 11, 12] rfl ?_
                                          rw [hsub]
                                          exact J443 (lv - 1) true _ (pput P (wcd (sgM M f) k j) (wnm (sgM M f) k j)) ((((hF.a (k := 11) (qn P) (nI k) (Or.inl rfl)).a (k := 12) (qn P) (nI j) (Or.inr (Or.inl rfl))).i (k := 6) (nI (qn P) + Int32.ofInt 1) (by decide)).a (k := 14) (lv - 1) _ (Or.inr (Or.inr rfl))) (Or.inl (by subst hwe; exact rw_close hr hk hws hn4 hnm hW1 ⟨fun _ => (nI_0i (by omega)).mp (by rw [← hsub]; exact q211), fun _ => rfl⟩))
                                    · have hW0 : cw (sgM M f) k j = 0 := hi0.mpr (of_decide_eq_true (Bool.of_not_eq_false (fun y => q191 ((bI_0 _).mpr y))))
                                      refine AW.run X M_readWords_d 192 5 rfl ?_
                                      refine AW.ms14 (j := lv + 1) X (nI_o1 lv) (by omega) (M_readWords_d.d 197 rfl) ?_
                                      refine AW.goto X (M_readWords_d.d 198 rfl) ?_
                                      refine AW.pk [7, 9, 10, 0, 11, 12] rfl ?_
                                      rw [nI_o1 lv]
                                      exact J443 (lv + 1) dn _ (pput P (wcd (sgM M f) k j) (wnm (sgM M f) k j)) ((((hF.a (k := 11) (qn P) (nI k) (Or.inl rfl)).a (k := 12) (qn P) (nI j) (Or.inr (Or.inl rfl))).i (k := 6) (nI (qn P) + Int32.ofInt 1) (by decide)).a (k := 14) (lv + 1) _ (Or.inr (Or.inr rfl))) (Or.inl (by subst hwe; exact rw_open hr hk hws hn4 hnm hW0 (h12 hW0)))
                                  refine AW.if_eq X (M_readWords_d.d 181 rfl) (fun q181 => ?_) (fun q181 => ?_)
                                  · exact J374 0 (fun z => absurd (hi0.mp z) (of_decide_eq_false ((bI_0 _).mp q181)))
                                  · refine AW.run X M_readWords_d 182 2 rfl ?_
                                    refine AW.icmp_ne X (M_readWords_d.d 184 rfl) (fun q184 => ?_) (fun q184 => ?_)
                                    · exact J374 0 (fun _ z => q184 (by rw [hlv, z]; rfl))
                                    · refine AW.run X M_readWords_d 185 3 rfl ?_
                                      refine AW.callV (As := [.int ((Int8.ofInt 6).toInt32), .int (nI k)]) X (M_show_m S (y_i (y_a (y_a M2 11 (qn P) (nI k)) 12 (qn P) (nI j)) 6 (nI (qn P) + Int32.ofInt 1)) tl _ _) cb_M_183 rfl rfl M_show_im M_show_se rfl ⟨Nat.le_of_ble_eq_true rfl, Nat.le_of_ble_eq_true rfl⟩ (Nat.le_of_ble_eq_true rfl) ⟨Nat.le_of_ble_eq_true rfl, Nat.le_of_ble_eq_true rfl⟩ (M_readWords_d.d 188 rfl) (fun v h' q => ?_)
                                      obtain ⟨rfl, q⟩ := q
                                      rw [if_pos h70] at q
                                      subst q
                                      refine AW.goto X (M_readWords_d.d 189 rfl) ?_
                                      refine AW.pk [6, 8, 9, 10, 11, 12] rfl ?_
                                      exact J443 lv dn _ P (((((hF.a (k := 11) (qn P) (nI k) (Or.inl rfl)).a (k := 12) (qn P) (nI j) (Or.inr (Or.inl rfl))).i (k := 6) (nI (qn P) + Int32.ofInt 1) (by decide)).i (k := 7) _ (by decide)).i (k := 8) _ (by decide)) (Or.inr (by
                                        have hq := hi0.mpr (of_decide_eq_true (Bool.of_not_eq_false (fun y => q181 ((bI_0 _).mpr y))))
                                        subst hwe
                                        exact rw_er (c := 6) hr hk hws (perr_6 hn4 hnm ⟨hq, by have := (nI_eq (b := 12) (by omega) (by decide)).mp q184; omega⟩) (by decide) (by decide) ((y_in _ (k := 8) (j := 7) _ (by decide)).trans (y_ig _ 7 _)) (y_ig _ 8 _)))
                                · refine AW.run X M_readWords_d 175 3 rfl ?_
                                  refine AW.callV (As := [.int ((Int8.ofInt 7).toInt32), .int (nI k)]) X (M_show_m S (y_i (y_a (y_a M2 11 (qn P) (nI k)) 12 (qn P) (nI j)) 6 (nI (qn P) + Int32.ofInt 1)) tl _ _) cb_M_183 rfl rfl M_show_im M_show_se rfl ⟨Nat.le_of_ble_eq_true rfl, Nat.le_of_ble_eq_true rfl⟩ (Nat.le_of_ble_eq_true rfl) ⟨Nat.le_of_ble_eq_true rfl, Nat.le_of_ble_eq_true rfl⟩ (M_readWords_d.d 178 rfl) (fun v h' q => ?_)
                                  obtain ⟨rfl, q⟩ := q
                                  rw [if_pos h70] at q
                                  subst q
                                  refine AW.goto X (M_readWords_d.d 179 rfl) ?_
                                  refine AW.pk [6, 8, 9, 10, 11, 12] rfl ?_
                                  exact J443 lv dn _ P (((((hF.a (k := 11) (qn P) (nI k) (Or.inl rfl)).a (k := 12) (qn P) (nI j) (Or.inr (Or.inl rfl))).i (k := 6) (nI (qn P) + Int32.ofInt 1) (by decide)).i (k := 7) _ (by decide)).i (k := 8) _ (by decide)) (Or.inr (by
                                    subst hwe
                                    exact rw_er (c := 7) hr hk hws (perr_7 hn4 (Classical.byContradiction fun z => absurd (dc_t z) (by rw [(bI_0 _).mp q174]; decide))) (by decide) (by decide) ((y_in _ (k := 8) (j := 7) _ (by decide)).trans (y_ig _ 7 _)) (y_ig _ 8 _)))
                              refine AW.if_ne X (M_readWords_d.d 125 rfl) (fun q125 => ?_) (fun q125 => ?_)
                              · have hl1 : 1 ≤ lv := by
                                  have : lv ≠ 0 := fun z => q125 (by rw [z]; rfl)
                                  omega
                                have hd0 : qd P ≠ 0 := by omega
                                have hqv := hqw hl1
                                have hq2v := hq2 hl1
                                refine AW.run X M_readWords_d 134 1 rfl ?_
                                refine AW.if_eq X (M_readWords_d.d 135 rfl) (fun q135 => ?_) (fun q135 => ?_)
                                · refine AW.run X M_readWords_d 143 1 rfl ?_
                                  refine AW.if_eq X (M_readWords_d.d 144 rfl) (fun q144 => ?_) (fun q144 => ?_)
                                  · refine AW.run X M_readWords_d 152 1 rfl ?_
                                    refine AW.if_eq X (M_readWords_d.d 153 rfl) (fun q153 => ?_) (fun q153 => ?_)
                                    · refine AW.run X M_readWords_d 161 1 rfl ?_
                                      refine AW.if_ne X (M_readWords_d.d 162 rfl) (fun q162 => ?_) (fun q162 => ?_)
                                      · refine AW.run X M_readWords_d 165 1 rfl ?_
                                        exact J324 _ (dz_f (fun z => z ((pm_w hd0 (fun y => (of_decide_eq_false ((bI_0 _).mp q144)) y) (fun y => (of_decide_eq_false ((bI_0 _).mp q153)) y) (fun y => (of_decide_eq_false ((bI_0 _).mp q135)) (hi0.mp y))).mpr (fun y => q162 (by rw [hqv, y]; rfl)))))
                                      · refine AW.run X M_readWords_d 163 1 rfl ?_
                                        refine AW.goto X (M_readWords_d.d 164 rfl) ?_
                                        exact J324 _ (dz_t (fun z => (pm_w hd0 (fun y => (of_decide_eq_false ((bI_0 _).mp q144)) y) (fun y => (of_decide_eq_false ((bI_0 _).mp q153)) y) (fun y => (of_decide_eq_false ((bI_0 _).mp q135)) (hi0.mp y))).mp z ((nI_eq (b := 0) (by omega) (by decide)).mp (by rw [← hqv]; exact q162))))
                                    · refine AW.run X M_readWords_d 154 2 rfl ?_
                                      refine AW.icmp_ne X (M_readWords_d.d 156 rfl) (fun q156 => ?_) (fun q156 => ?_)
                                      · refine AW.run X M_readWords_d 159 1 rfl ?_
                                        refine AW.goto X (M_readWords_d.d 160 rfl) ?_
                                        exact J324 _ (dz_f (fun z => z (by rw [(of_decide_eq_true (Bool.of_not_eq_false (fun y => q153 ((bI_0 _).mpr y))))]; exact (pm_38 hd0).mpr (fun y => q156 (by rw [hqv, y]; rfl)))))
                                      · refine AW.run X M_readWords_d 157 1 rfl ?_
                                        refine AW.goto X (M_readWords_d.d 158 rfl) ?_
                                        exact J324 _ (dz_t (fun z => (pm_38 hd0).mp (by rw [(of_decide_eq_true (Bool.of_not_eq_false (fun y => q153 ((bI_0 _).mpr y))))] at z; exact z) ((nI_eq (b := 2) (by omega) (by decide)).mp (by rw [← hqv]; exact q156))))
                                  · refine AW.run X M_readWords_d 145 2 rfl ?_
                                    refine AW.icmp_ne X (M_readWords_d.d 147 rfl) (fun q147 => ?_) (fun q147 => ?_)
                                    · refine AW.run X M_readWords_d 150 1 rfl ?_
                                      refine AW.goto X (M_readWords_d.d 151 rfl) ?_
                                      exact J324 _ (dz_f (fun z => z (by rw [(of_decide_eq_true (Bool.of_not_eq_false (fun y => q144 ((bI_0 _).mpr y))))]; exact (pm_37 hd0).mpr (fun y => q147 (by rw [hqv, y]; rfl)))))
                                    · refine AW.run X M_readWords_d 148 1 rfl ?_
                                      refine AW.goto X (M_readWords_d.d 149 rfl) ?_
                                      exact J324 _ (dz_t (fun z => (pm_37 hd0).mp (by rw [(of_decide_eq_true (Bool.of_not_eq_false (fun y => q144 ((bI_0 _).mpr y))))] at z; exact z) ((nI_eq (b := 1) (by omega) (by decide)).mp (by rw [← hqv]; exact q147))))
                                · refine AW.run X M_readWords_d 136 2 rfl ?_
                                  refine AW.icmp_ge X (M_readWords_d.d 138 rfl) (fun q138 => ?_) (fun q138 => ?_)
                                  · refine AW.run X M_readWords_d 141 1 rfl ?_
                                    refine AW.goto X (M_readWords_d.d 142 rfl) ?_
                                    exact J324 _ (dz_f (fun z => z (by rw [hi0.mpr (of_decide_eq_true (Bool.of_not_eq_false (fun y => q135 ((bI_0 _).mpr y))))]; exact (pm_0 hd0).mpr (by have := cge (a := qw P (qd P)) (b := 2) q138 hqv (by decide); omega))))
                                  · refine AW.run X M_readWords_d 139 1 rfl ?_
                                    refine AW.goto X (M_readWords_d.d 140 rfl) ?_
                                    exact J324 _ (dz_t (fun z => by
                                      rw [hi0.mpr (of_decide_eq_true (Bool.of_not_eq_false (fun y => q135 ((bI_0 _).mpr y))))] at z
                                      have := (pm_0 hd0).mp z
                                      have := clt (a := qw P (qd P)) (b := 2) q138 hqv (by decide)
                                      omega))
                              · have hd0 : qd P = 0 := by have := (nI_0i (by omega)).mp q125; omega
                                refine AW.run X M_readWords_d 126 1 rfl ?_
                                refine AW.if_eq X (M_readWords_d.d 127 rfl) (fun q127 => ?_) (fun q127 => ?_)
                                · refine AW.run X M_readWords_d 132 1 rfl ?_
                                  refine AW.goto X (M_readWords_d.d 133 rfl) ?_
                                  exact J324 _ (dz_f (fun z => z ((pm_00 hd0).mpr (fun y => (of_decide_eq_false ((bI_0 _).mp q127)) (hi0.mp y.1)))))
                                · refine AW.run X M_readWords_d 128 1 rfl ?_
                                  refine AW.if_ne X (M_readWords_d.d 129 rfl) (fun q129 => ?_) (fun q129 => ?_)
                                  · refine AW.run X M_readWords_d 132 1 rfl ?_
                                    refine AW.goto X (M_readWords_d.d 133 rfl) ?_
                                    exact J324 _ (dz_f (fun z => z ((pm_00 hd0).mpr (fun y => by have := (hr.2.1.2.mp (Bool.of_not_eq_false (fun y => q129 ((bI_0 _).mpr y)))).2; omega))))
                                  · refine AW.run X M_readWords_d 130 1 rfl ?_
                                    refine AW.goto X (M_readWords_d.d 131 rfl) ?_
                                    exact J324 _ (dz_t (fun z => (pm_00 hd0).mp z ⟨hi0.mpr (of_decide_eq_true (Bool.of_not_eq_false (fun y => q127 ((bI_0 _).mpr y)))), Nat.eq_zero_of_not_pos (fun y => by have := hr.2.1.2.mpr ⟨hd0, y⟩; rw [(bI_0 _).mp q129] at this; cases this)⟩))
                            refine AW.icmp_ne X (M_readWords_d.d 100 rfl) (fun q100 => ?_) (fun q100 => ?_)
                            · refine AW.run X M_readWords_d 103 1 rfl ?_
                              exact J200 _ (by rw [decide_eq_false (fun z => q100 (by rw [z]; rfl))]; rfl)
                            · refine AW.run X M_readWords_d 101 1 rfl ?_
                              refine AW.goto X (M_readWords_d.d 102 rfl) ?_
                              exact J200 _ (by rw [decide_eq_true ((nI_eq (b := 125) (by omega) (by decide)).mp q100)]; rfl)
                          refine AW.icmp_ne X (M_readWords_d.d 93 rfl) (fun q93 => ?_) (fun q93 => ?_)
                          · refine AW.run X M_readWords_d 96 1 rfl ?_
                            exact J186 _ (by rw [decide_eq_false (fun z => q93 (by rw [z]; rfl))]; rfl)
                          · refine AW.run X M_readWords_d 94 1 rfl ?_
                            refine AW.goto X (M_readWords_d.d 95 rfl) ?_
                            exact J186 _ (by rw [decide_eq_true ((nI_eq (b := 123) (by omega) (by decide)).mp q93)]; rfl)
                        · refine AW.run X M_readWords_d 74 3 rfl ?_
                          refine AW.callV (As := [.int (Int32.ofInt 5), .int (nI k)]) X (M_show_m S M2 tl _ _) cb_M_183 rfl rfl M_show_im M_show_se rfl ⟨Nat.le_of_ble_eq_true rfl, Nat.le_of_ble_eq_true rfl⟩ (Nat.le_of_ble_eq_true rfl) ⟨Nat.le_of_ble_eq_true rfl, Nat.le_of_ble_eq_true rfl⟩ (M_readWords_d.d 77 rfl) (fun v h' q => ?_)
                          obtain ⟨rfl, q⟩ := q
                          rw [if_pos q32] at q
                          subst q
                          exact AW.vret X (M_readWords_d.d 78 rfl) (Nat.le_of_ble_eq_true rfl) (Nat.le_of_ble_eq_true rfl) ⟨rfl, _, rfl, rw_C hF hr hk hws ((nI_eq (b := 400) (by have := hP.1; omega) (by decide)).mp (by rw [← hr.1.2]; exact q73)) rfl⟩
                      refine AW.if_ne X (M_readWords_d.d 49 rfl) (fun q49 => ?_) (fun q49 => ?_)
                      · exact J134 0 (by rw [g3 ((br_i (sgM_lt M f k)).mp (of_decide_eq_true (Bool.of_not_eq_false (fun y => q49 ((bI_0 _).mpr y)))))]; exact if_pos ((br_i (sgM_lt M f k)).mp (of_decide_eq_true (Bool.of_not_eq_false (fun y => q49 ((bI_0 _).mpr y))))))
                      · refine AW.run X M_readWords_d 50 4 rfl ?_
                        refine AW.ml8 (j := f) X rfl (by omega) (M_readWords_d.d 54 rfl) ?_
                        rw [hsz2]
                        refine AW.icmp_ge X (M_readWords_d.d 55 rfl) (fun q55 => ?_) (fun q55 => ?_)
                        · exact J134 0 (by rw [show we (sgM M f) n k = wn (sgM M f) n (k + 1) from if_neg (fun z => of_decide_eq_false ((bI_0 _).mp q49) ((br_i (sgM_lt M f k)).mpr z)), ← g4 (fun z => of_decide_eq_false ((bI_0 _).mp q49) ((br_i (sgM_lt M f k)).mpr z)), wn_0 (fun z => by have := cge q55; omega)])
                        · have hjn : j < n := clt q55
                          refine AW.run X M_readWords_d 56 3 rfl ?_
                          refine AW.callV (As := [.int (nI f), .int (nI j)]) X (M_signAt_m S M2 tl f j (by omega)) cb_M_177 rfl rfl M_signAt_im M_signAt_se rfl ⟨Nat.le_of_ble_eq_true rfl, Nat.le_of_ble_eq_true rfl⟩ (Nat.le_of_ble_eq_true rfl) ⟨Nat.le_of_ble_eq_true rfl, Nat.le_of_ble_eq_true rfl⟩ (M_readWords_d.d 59 rfl) (fun v h' q => ?_)
                          obtain ⟨rfl, rfl⟩ := q
                          rw [sgn_and, show sgn (M2.2.1 9 (8192 * f + j)) = sgM M f j from hg j]
                          refine AW.run X M_readWords_d 60 1 rfl ?_
                          refine AW.icmp_le X (M_readWords_d.d 61 rfl) (fun q61 => ?_) (fun q61 => ?_)
                          · exact J134 0 (by rw [show we (sgM M f) n k = wn (sgM M f) n (k + 1) from if_neg (fun z => of_decide_eq_false ((bI_0 _).mp q49) ((br_i (sgM_lt M f k)).mpr z)), ← g4 (fun z => of_decide_eq_false ((bI_0 _).mp q49) ((br_i (sgM_lt M f k)).mpr z)), wn_0 (fun z => absurd z.2.1 (Nat.not_lt.mpr (cge (a := 32) (b := sgM M f j) q61 (by decide) rfl (by decide) (by have := sgM_lt M f j; omega))))])
                          · refine AW.run X M_readWords_d 62 3 rfl ?_
                            refine AW.callV (As := [.int (nI f), .int (nI j)]) X (M_signAt_m S M2 tl f j (by omega)) cb_M_177 rfl rfl M_signAt_im M_signAt_se rfl ⟨Nat.le_of_ble_eq_true rfl, Nat.le_of_ble_eq_true rfl⟩ (Nat.le_of_ble_eq_true rfl) ⟨Nat.le_of_ble_eq_true rfl, Nat.le_of_ble_eq_true rfl⟩ (M_readWords_d.d 65 rfl) (fun v h' q => ?_)
                            obtain ⟨rfl, rfl⟩ := q
                            rw [sgn_and, show sgn (M2.2.1 9 (8192 * f + j)) = sgM M f j from hg j]
                            refine AW.callS (As := [.int (nI (sgM M f j))]) X (M_isBrace_m _) cb_M_180 M_isBrace_st rfl ⟨Nat.le_of_ble_eq_true rfl, Nat.le_of_ble_eq_true rfl⟩ (Nat.le_of_ble_eq_true rfl) ⟨Nat.le_of_ble_eq_true rfl, Nat.le_of_ble_eq_true rfl⟩ (M_readWords_d.d 66 rfl) (fun v h' q => ?_)
                            obtain ⟨rfl, rfl⟩ := q
                            refine AW.if_ne X (M_readWords_d.d 67 rfl) (fun q67 => ?_) (fun q67 => ?_)
                            · exact J134 0 (by rw [show we (sgM M f) n k = wn (sgM M f) n (k + 1) from if_neg (fun z => of_decide_eq_false ((bI_0 _).mp q49) ((br_i (sgM_lt M f k)).mpr z)), ← g4 (fun z => of_decide_eq_false ((bI_0 _).mp q49) ((br_i (sgM_lt M f k)).mpr z)), wn_0 (fun z => z.2.2 ((br_i (sgM_lt M f j)).mp (of_decide_eq_true (Bool.of_not_eq_false (fun y => q67 ((bI_0 _).mpr y))))))])
                            · refine AW.run X M_readWords_d 68 1 rfl ?_
                              refine AW.goto X (M_readWords_d.d 69 rfl) ?_
                              rw [nI_o1]
                              exact ih3 (j + 1) (by omega) (by have := clt q55; omega) (fun z => absurd z (fun z => of_decide_eq_false ((bI_0 _).mp q49) ((br_i (sgM_lt M f k)).mpr z))) (fun z => by rw [← g4 z]; exact (wn_1 ⟨clt q55, clt (a := 32) (b := sgM M f j) q61 (by decide) rfl (by decide) (by have := sgM_lt M f j; omega), (fun z => of_decide_eq_false ((bI_0 _).mp q67) ((br_i (sgM_lt M f j)).mpr z))⟩).symm) (by have := clt q55; omega)
                  rw [nI_o1]
                  exact L84 (n + 1) (k + 1) (by omega) (by omega) (fun _ => rfl) (fun _ => rfl) (by omega)
                · refine AW.run X M_readWords_d 41 1 rfl ?_
                  refine AW.goto X (M_readWords_d.d 42 rfl) ?_
                  refine AW.pk [0, 2, 3, 4, 5] rfl ?_
                  rw [nI_o1]
                  exact ih (k + 1) lv dn M2 P (by omega) (by omega) hF (Or.inl (by
                    have hr2 := hr
                    unfold rwR at hr2 ⊢
                    rw [← ws_1 hk (cle (a := sgM M f k) (b := 32) q40 rfl (by decide) (by have := sgM_lt M f k; omega))]
                    exact hr2))
        exact L38 (n + 1) 0 0 false _ P0 (by omega) (by omega) (((((RWf.refl M).i (k := 7) _ (by decide)).i (k := 6) _ (by decide)).A g)) (Or.inl ⟨⟨(y_in (y_i M 7 (Int32.ofInt 0)) (k := 6) (j := 7) (Int32.ofInt 0) (by decide)).trans (y_ig M 7 (Int32.ofInt 0)), by rw [h0.1]; exact y_ig (y_i M 7 (Int32.ofInt 0)) 6 (Int32.ofInt 0)⟩, ⟨h0.2.symm, ⟨fun z => (by cases z), fun z => by omega⟩⟩, fun j l1 l2 => by omega, PI_0 h0, fun j l => by omega, by rw [h0.1]⟩)
      · have hj20 : j < 20 := clt (b := 20) q12 rfl (by decide)
        refine AW.run X M_readWords_d 13 4 rfl ?_
        refine AW.ms14 (j := j) X rfl (by omega) (M_readWords_d.d 17 rfl) ?_
        refine AW.run X M_readWords_d 18 1 rfl ?_
        refine AW.goto X (M_readWords_d.d 19 rfl) ?_
        rw [nI_o1, y_aA]
        exact ih1 (j + 1) _ (by omega) (by omega)
  exact AW.eq (h' := x_hM S (y_A (y_i (y_i M 7 (Int32.ofInt 0)) 6 (Int32.ofInt 0)) 14 ((y_i (y_i M 7 (Int32.ofInt 0)) 6 (Int32.ofInt 0)).2.1 14)) tl) (by rw [y_A0]) (L14 21 0 _ (by omega) (by omega))

