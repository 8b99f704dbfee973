/-! THE REFERENCE RUNS a program: the words of Q lie in row f -/
def TK (M : x_M) (f n : Nat) (Q : pP) : Prop := M.1 6 = nI (qn Q) ∧ qn Q ≤ 400 ∧ n ≤ 8192 ∧ ∀ j, j < qn Q → ∃ s e, tok (sgM M f) n Q j s e ∧ M.2.1 11 j = nI s ∧ M.2.1 12 j = nI e
/-- only what a run changes -/
def PF (M M' : x_M) : Prop := (∀ k, k ≠ 3 → k ≠ 4 → k ≠ 9 → k ≠ 10 → k ≠ 11 → M'.1 k = M.1 k) ∧ (∀ k, k ≠ 13 → k ≠ 14 → M'.2.1 k = M.2.1 k) ∧ ∀ k, k ≠ 3 → M'.2.2 k = M.2.2 k
theorem PF.refl (M : x_M) : PF M M := ⟨fun _ _ _ _ _ _ => rfl, fun _ _ _ => rfl, fun _ _ => rfl⟩
theorem PF.trans {M M1 M2 : x_M} (h : PF M M1) (g : PF M1 M2) : PF M M2 := ⟨fun k a b c d e => (g.1 k a b c d e).trans (h.1 k a b c d e), fun k a b => (g.2.1 k a b).trans (h.2.1 k a b), fun k a => (g.2.2 k a).trans (h.2.2 k a)⟩
theorem PF.of {M M1 : x_M} (h : MFr M M1) : PF M M1 := ⟨fun k a b c _ _ => h.1 k a b c, fun k a _ => h.2.1 k a, h.2.2⟩
theorem PF.i {M M1 : x_M} (h : PF M M1) {k : Nat} (x : Int32) (hk : k = 3 ∨ k = 4 ∨ k = 9 ∨ k = 10 ∨ k = 11) : PF M (y_i M1 k x) := h.trans ⟨fun j a b c d e => y_in M1 x (by omega), fun _ _ _ => rfl, fun _ _ => rfl⟩
theorem PF.a {M M1 : x_M} (h : PF M M1) {k : Nat} (j : Nat) (x : Int32) (hk : k = 13 ∨ k = 14) : PF M (y_a M1 k j x) := h.trans ⟨fun _ _ _ _ _ _ => rfl, fun i a b => y_an M1 j x (by omega), fun _ _ => rfl⟩
theorem PF.l {M M1 : x_M} (h : PF M M1) (j : Nat) (x : Int64) : PF M (y_l M1 3 j x) := h.trans ⟨fun _ _ _ _ _ _ => rfl, fun _ _ _ => rfl, fun _ a => va_up_ne _ _ a⟩
theorem TK.pf {M M' : x_M} {f n : Nat} {Q : pP} (h : TK M f n Q) (g : PF M M') : TK M' f n Q := by
  have e9 : sgM M' f = sgM M f := by unfold sgM; rw [g.2.1 9 (by decide) (by decide)]
  refine ⟨(g.1 6 (by decide) (by decide) (by decide) (by decide) (by decide)).trans h.1, h.2.1, h.2.2.1, ?_⟩
  rw [e9, g.2.1 11 (by decide) (by decide), g.2.1 12 (by decide) (by decide)]
  exact h.2.2.2
/-- where the reference goes back to -/
def RT (M : x_M) (st : List Nat) : Prop := M.1 10 = nI st.length ∧ ∀ j, j < st.length → M.2.1 14 j = nI (st.getD (st.length - 1 - j) 0)
theorem RT.fr {M M' : x_M} {st : List Nat} (h : RT M st) (h1 : M'.1 10 = M.1 10) (h2 : M'.2.1 14 = M.2.1 14) : RT M' st := ⟨h1.trans h.1, by rw [h2]; exact h.2⟩
theorem RT.mf {M M' : x_M} {st : List Nat} (h : RT M st) (g : MFr M M') : RT M' st := h.fr (g.1 10 (by decide) (by decide) (by decide)) (g.2.1 14 (by decide))
theorem RT.push {M M' : x_M} {st : List Nat} {r : Nat} (h : RT M st) (h1 : M'.1 10 = nI (st.length + 1)) (h2 : M'.2.1 14 = upd (M.2.1 14) st.length (nI r)) : RT M' (r :: st) := by
  refine ⟨h1, fun j hj => ?_⟩
  rw [List.length_cons] at hj
  rw [h2, List.length_cons]
  by_cases z : j = st.length
  · rw [z, upd_s, show st.length + 1 - 1 - st.length = 0 by omega]; rfl
  · rw [upd_n z, h.2 j (by omega), show st.length + 1 - 1 - j = (st.length - 1 - j) + 1 by omega]; rfl
theorem RT.keep {M M' : x_M} {st : List Nat} {x : Int32} (h : RT M st) (h1 : M'.1 10 = M.1 10) (h2 : M'.2.1 14 = upd (M.2.1 14) st.length x) : RT M' st := by
  refine ⟨h1.trans h.1, fun j hj => ?_⟩
  rw [h2, upd_n (by omega)]; exact h.2 j hj
theorem RT.pop {M M' : x_M} {st : List Nat} {r : Nat} (h : RT M (r :: st)) (h1 : M'.1 10 = nI st.length) (h2 : M'.2.1 14 = M.2.1 14) : RT M' st := by
  refine ⟨h1, fun j hj => ?_⟩
  rw [h2, h.2 j (by rw [List.length_cons]; omega), List.length_cons, show st.length + 1 - 1 - j = (st.length - 1 - j) + 1 by omega]; rfl
theorem RT.top {M : x_M} {st : List Nat} {r : Nat} (h : RT M (r :: st)) : M.2.1 14 st.length = nI r := by
  rw [h.2 st.length (by rw [List.length_cons]; omega), List.length_cons, show st.length + 1 - 1 - st.length = 0 by omega]; rfl
theorem MS.fr {M M' : x_M} {n : Nat} {u : Nat → Int} {t : Nat → Bool} (h : MS M n u t) (h1 : M'.1 9 = M.1 9) (h2 : M'.2.1 13 = M.2.1 13) (h3 : M'.2.2 3 = M.2.2 3) : MS M' n u t := ⟨h1.trans h.1, by rw [h2, h3]; exact h.2⟩
theorem wcd_i {sg : Nat → Nat} {s e i : Nat} (hi : i < 39) (h2 : i ≠ 2) : wcd sg s e = i ↔ cw sg s e = i := by
  unfold wcd
  by_cases z : cw sg s e = 39
  · rw [if_pos z]; omega
  · rw [if_neg z]
theorem wcd_2 {sg : Nat → Nat} {s e : Nat} (h : s < e) : wcd sg s e = 2 ↔ cw sg s e = 39 := by
  have := cw_2 (sg := sg) h
  unfold wcd
  by_cases z : cw sg s e = 39
  · rw [if_pos z]; omega
  · rw [if_neg z]; omega
theorem M_isWd_m {l : Launch} {G : ax_G} (S : x_S) (M : x_M) (tl : List va_E) (f w i n : Nat) (Q : pP) (hf : f < 24) (hT : TK M f n Q) (hw : w < qn Q) (hi : i < 39) (h2 : i ≠ 2) :
    AM l VV G M_isWord_y M_isWord_c 6 (some .boolean) 4 0 0 [.ref 153, .int (nI f), .int (nI w), .ref (39 + i)] (x_hM S M tl) (fun v h' => v = some (.int (bI (decide (qc Q w = i)))) ∧ h' = x_hM S M tl) := by
  obtain ⟨s, e, t, hb, he⟩ := hT.2.2.2 w hw
  have h := M_isWord_m (l := l) (G := G) S M tl f w i s e hf (by have := hT.2.1; omega) hi hb he ⟨by have := t.1; omega, by have := t.2.1; have := hT.2.2.1; omega⟩
  rw [cw_i hi, show decide (cw (sgM M f) s e = i) = decide (qc Q w = i) from decide_eq_decide.mpr (by rw [t.2.2.2.1]; exact (wcd_i hi h2).symm)] at h
  exact h
theorem M_isNm_m {l : Launch} {G : ax_G} (S : x_S) (M : x_M) (tl : List va_E) (f w n : Nat) (Q : pP) (hf : f < 24) (hT : TK M f n Q) (hw : w < qn Q) :
    AM l VV G M_isNumber_y M_isNumber_c 7 (some .boolean) 1 0 0 [.ref 153, .int (nI f), .int (nI w)] (x_hM S M tl) (fun v h' => v = some (.int (bI (decide (qc Q w = 2)))) ∧ h' = x_hM S M tl) := by
  obtain ⟨s, e, t, hb, he⟩ := hT.2.2.2 w hw
  have h := M_isNumber_m (l := l) (G := G) S M tl f w s e hf (by have := hT.2.1; omega) hb he ⟨t.1, by have := t.2.1; have := hT.2.2.1; omega⟩
  rw [dc_iff (show isn (sgM M f) s e ↔ qc Q w = 2 from by rw [t.2.2.2.1, wcd_2 t.1]; exact ⟨fun z => isn_cw z t.1, fun z => (t.2.2.2.2 z).1⟩), ← dc_dec] at h
  exact h
theorem M_pof_m {l : Launch} {G : ax_G} (S : x_S) (M : x_M) (tl : List va_E) (f w n : Nat) (Q : pP) (hf : f < 24) (hT : TK M f n Q) (hw : w < qn Q) (h2 : qc Q w = 2) :
    AM l VV G M_partOf_y M_partOf_c 14 (some .long) 1 0 0 [.ref 153, .int (nI f), .int (nI w), .int (bI true)] (x_hM S M tl) (fun v h' => v = some (.long (lZ (qm Q w))) ∧ h' = x_hM S M tl) := by
  obtain ⟨s, e, t, hb, he⟩ := hT.2.2.2 w hw
  have hc := (wcd_2 t.1).mp (t.2.2.2.1.symm.trans h2)
  have h := M_partOf_m (l := l) (G := G) S M tl f w s e true hf (by have := hT.2.1; omega) hb he ⟨t.1, by have := t.2.1; have := hT.2.2.1; omega⟩ (t.2.2.2.2 hc).1
  rw [show (if true = true then nv (sgM M f) s e else ((nwh (sgM M f) s e : Nat) : Int)) = qm Q w from (t.2.2.2.2 hc).2.2.symm] at h
  exact h
theorem M_nof_m {l : Launch} {G : ax_G} (S : x_S) (M : x_M) (tl : List va_E) (f w n : Nat) (Q : pP) (hf : f < 24) (hT : TK M f n Q) (hw : w < qn Q) (h3 : 3 ≤ qc Q w) :
    AM l VV G M_nameOf_y M_nameOf_c 4 (some .int) 5 0 0 [.ref 153, .int (nI f), .int (nI w)] (x_hM S M tl) (fun v h' => v = some (.int (iZ (nof (qc Q w)))) ∧ h' = x_hM S M tl) := by
  obtain ⟨s, e, t, hb, he⟩ := hT.2.2.2 w hw
  have h := M_nameOf_m (l := l) (G := G) S M tl f w s e hf (by have := hT.2.1; omega) hb he ⟨by have := t.1; omega, by have := t.2.1; have := hT.2.2.1; omega⟩
  have hz : cw (sgM M f) s e ≠ 39 := fun z => by have := (wcd_2 t.1).mpr z; have := t.2.2.2.1; omega
  rw [show cw (sgM M f) s e = qc Q w from by rw [t.2.2.2.1]; unfold wcd; rw [if_neg hz]] at h
  exact h
theorem dp_b (cs : Nat → Nat) : ∀ k : Nat, -(k : Int) ≤ dp cs k ∧ dp cs k ≤ k := by
  intro k
  induction k with
  | zero => exact ⟨Int.le_refl _, Int.le_refl _⟩
  | succ k ih =>
    show -((k + 1 : Nat) : Int) ≤ dp cs k + (if cs k = 0 then 1 else if cs k = 1 then -1 else 0) ∧ dp cs k + (if cs k = 0 then 1 else if cs k = 1 then -1 else 0) ≤ ((k + 1 : Nat) : Int)
    split
    · omega
    · split <;> omega
theorem M_perf_m {l : Launch} {G : ax_G} (S : x_S) (M : x_M) (tl : List va_E) (n : Nat) (u : Nat → Int) (t : Nat → Bool) (hG : gd M) (hW : WS n u t) (hM : MS M n u t) (num : Int) : ∀ c : Nat, 3 ≤ c → c < 37 → AM l VV G M_perform_y M_perform_c 2 none 7 0 0 [.ref 153, .int (iZ (nof c))] (x_hM S M tl) (fun v h' => v = none ∧ mp S tl M (pS c num n u t) h')
  | 0, h, _ => absurd h (by decide)
  | 1, h, _ => absurd h (by decide)
  | 2, h, _ => absurd h (by decide)
  | 3, _, _ => by rw [nof_k (k := 21) (c := 3) (by decide) rfl]; exact M_perform3_m S M tl n u t hG hW hM num
  | 4, _, _ => by rw [nof_k (k := 22) (c := 4) (by decide) rfl]; exact M_perform4_m S M tl n u t hG hW hM num
  | 5, _, _ => by rw [nof_k (k := 0) (c := 5) (by decide) rfl]; exact M_perform5_m S M tl n u t hG hW hM num
  | 6, _, _ => by rw [nof_k (k := 1) (c := 6) (by decide) rfl]; exact M_perform6_m S M tl n u t hG hW hM num
  | 7, _, _ => by rw [nof_k (k := 2) (c := 7) (by decide) rfl]; exact M_perform7_m S M tl n u t hG hW hM num
  | 8, _, _ => by rw [nof_k (k := 3) (c := 8) (by decide) rfl]; exact M_perform8_m S M tl n u t hG hW hM num
  | 9, _, _ => by rw [nof_k (k := 4) (c := 9) (by decide) rfl]; exact M_perform9_m S M tl n u t hG hW hM num
  | 10, _, _ => by rw [nof_k (k := 5) (c := 10) (by decide) rfl]; exact M_perform10_m S M tl n u t hG hW hM num
  | 11, _, _ => by rw [nof_k (k := 6) (c := 11) (by decide) rfl]; exact M_perform11_m S M tl n u t hG hW hM num
  | 12, _, _ => by rw [nof_k (k := 7) (c := 12) (by decide) rfl]; exact M_perform12_m S M tl n u t hG hW hM num
  | 13, _, _ => by rw [nof_k (k := 8) (c := 13) (by decide) rfl]; exact M_perform13_m S M tl n u t hG hW hM num
  | 14, _, _ => by rw [nof_k (k := 9) (c := 14) (by decide) rfl]; exact M_perform14_m S M tl n u t hG hW hM num
  | 15, _, _ => by rw [nof_k (k := 10) (c := 15) (by decide) rfl]; exact M_perform15_m S M tl n u t hG hW hM num
  | 16, _, _ => by rw [nof_k (k := 11) (c := 16) (by decide) rfl]; exact M_perform16_m S M tl n u t hG hW hM num
  | 17, _, _ => by rw [nof_k (k := 12) (c := 17) (by decide) rfl]; exact M_perform17_m S M tl n u t hG hW hM num
  | 18, _, _ => by rw [nof_k (k := 13) (c := 18) (by decide) rfl]; exact M_perform18_m S M tl n u t hG hW hM num
  | 19, _, _ => by rw [nof_k (k := 14) (c := 19) (by decide) rfl]; exact M_perform19_m S M tl n u t hG hW hM num
  | 20, _, _ => by rw [nof_k (k := 27) (c := 20) (by decide) rfl]; exact M_perform20_m S M tl n u t hG hW hM num
  | 21, _, _ => by rw [nof_k (k := 15) (c := 21) (by decide) rfl]; exact M_perform21_m S M tl n u t hG hW hM num
  | 22, _, _ => by rw [nof_k (k := 16) (c := 22) (by decide) rfl]; exact M_perform22_m S M tl n u t hG hW hM num
  | 23, _, _ => by rw [nof_k (k := 17) (c := 23) (by decide) rfl]; exact M_perform23_m S M tl n u t hG hW hM num
  | 24, _, _ => by rw [nof_k (k := 18) (c := 24) (by decide) rfl]; exact M_perform24_m S M tl n u t hG hW hM num
  | 25, _, _ => by rw [nof_k (k := 19) (c := 25) (by decide) rfl]; exact M_perform25_m S M tl n u t hG hW hM num
  | 26, _, _ => by rw [nof_k (k := 20) (c := 26) (by decide) rfl]; exact M_perform26_m S M tl n u t hG hW hM num
  | 27, _, _ => by rw [nof_k (k := 23) (c := 27) (by decide) rfl]; exact M_perform27_m S M tl n u t hG hW hM num
  | 28, _, _ => by rw [nof_k (k := 24) (c := 28) (by decide) rfl]; exact M_perform28_m S M tl n u t hG hW hM num
  | 29, _, _ => by rw [nof_k (k := 25) (c := 29) (by decide) rfl]; exact M_perform29_m S M tl n u t hG hW hM num
  | 30, _, _ => by rw [nof_k (k := 26) (c := 30) (by decide) rfl]; exact M_perform30_m S M tl n u t hG hW hM num
  | 31, _, _ => by rw [nof_k (k := 28) (c := 31) (by decide) rfl]; exact M_perform31_m S M tl n u t hG hW hM num
  | 32, _, _ => by rw [nof_k (k := 29) (c := 32) (by decide) rfl]; exact M_perform32_m S M tl n u t hG hW hM num
  | 33, _, _ => by rw [nof_k (k := 30) (c := 33) (by decide) rfl]; exact M_perform33_m S M tl n u t hG hW hM num
  | 34, _, _ => by rw [nof_k (k := 31) (c := 34) (by decide) rfl]; exact M_perform34_m S M tl n u t hG hW hM num
  | 35, _, _ => by rw [nof_k (k := 32) (c := 35) (by decide) rfl]; exact M_perform35_m S M tl n u t hG hW hM num
  | 36, _, _ => by rw [nof_k (k := 33) (c := 36) (by decide) rfl]; exact M_perform36_m S M tl n u t hG hW hM num
  | c + 37, _, h => absurd h (by omega)
