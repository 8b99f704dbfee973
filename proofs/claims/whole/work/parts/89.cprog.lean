/-! THE CLASS RUNS a program -/
theorem prg_run2 {pf : Nat → Int → pM → Int × pM} {cs on ow : Nat → Nat} {nm : Nat → Int} {N : Nat} (p0 : ∀ x M, pf 0 x M = (-1, M)) (p1 : ∀ x M, pf 1 x M = (-1, M)) (p37 : ∀ x M, pf 37 x M = pf 37 0 M) (p38 : ∀ x M, pf 38 x M = pf 37 0 M) (h : prg cs on ow N) (M : pM) :
    (∃ Y k m, k ≤ N ∧ CC pf cs on ow nm N k 0 M N Y ∧ MC pf cs nm N m (1, [], M) (N, [], Y))
    ∨ ∃ c p Y x m k, c ≠ -1 ∧ p < N ∧ k < N ∧ CC pf cs on ow nm N k 0 M p Y ∧ (pf (cs p) (nm p) Y).1 = c ∧ MC pf cs nm N m (1, [], M) x ∧ mflt pf cs nm N x c p := by
  obtain ⟨h1, h2, h3, ⟨n, h4⟩, h5, h6⟩ := h
  have c0 : CC pf cs on ow nm N 1 0 M 1 M := ⟨by omega, by rw [h2, p0], by rw [if_neg (by omega)]; exact h3, by rw [h2, p0]⟩
  rcases seg_both (nm := nm) p0 p1 p37 p38 [] M h4 (by omega : N - 1 < N) (by show (0 : Int) + 1 = dp cs 0 + _; rw [if_pos h2]; rfl) with ⟨k, M', l, c1, m, r1⟩ | ⟨k, p, M1, x, c, m, l, c1, l2, e1, r1, f1⟩
  · have c2 : CC pf cs on ow nm N 1 (N - 1) M' N M' := ⟨by omega, by rw [h5, p1], by rw [if_neg (by omega)]; exact h6, by rw [h5, p1]⟩
    have r2 : MC pf cs nm N 1 (N - 1, [], M') (N, [], M') := ⟨_, ⟨⟨by show N - 1 < N; omega, by rw [h4.dps.1]; show (0 : Int) + 1 = dp cs 0 + _; rw [if_pos h2]; rfl⟩, Or.inl ⟨h5, rfl, rfl⟩⟩, rfl⟩
    exact Or.inl ⟨M', _, m + 1, by omega, (c0.app c1).app c2, r1.app r2⟩
  · exact Or.inr ⟨c, p, M1, x, m, _, f1.2.1, l2, by omega, c0.app c1, e1, r1, f1⟩
theorem pfS_0 (x : Int) (M : pM) : pfS 0 x M = (-1, M) := rfl
theorem pfS_1 (x : Int) (M : pM) : pfS 1 x M = (-1, M) := rfl
theorem pfS_37 (x : Int) (M : pM) : pfS 37 x M = pfS 37 0 M := rfl
theorem pfS_38 (x : Int) (M : pM) : pfS 38 x M = pfS 37 0 M := rfl
/-- the program that the class holds: its cell a of the rest, its terms' cell b -/
def DP (tl : List va_E) (a b i o : Nat) (Q : pP) : Prop := ∃ (bw bn bo be : Nat) (W : Nat → Option Nat) (A B C : Nat → Int32), tl[a]? = some (.inr (8, [.int (nI (qn Q)), .ref (153 + bw), .ref (153 + bn), .ref (153 + bo), .ref (153 + be), .ref 150, .int (nI i), .int (nI o), .ref (153 + b)])) ∧ tl[bw]? = some (.inl (5, qn Q, .inr (.inr (.inr (.inr W))))) ∧ tl[bn]? = some (.inl (0, qn Q, .inl A)) ∧ tl[bo]? = some (.inl (0, qn Q, .inl B)) ∧ tl[be]? = some (.inl (0, qn Q, .inl C)) ∧ ∀ j, j < qn Q → W j = some (qc Q j) ∧ A j = iZ (qm Q j) ∧ B j = nI (qt Q j) ∧ C j = nI (qe Q j)
def kr (S : x_S) (tl : List va_E) (w : Nat) (r : pR) (a : Int) (v : Option Value) (h' : List va_E) : Prop := v = some (.int (iZ r.1)) ∧ ∃ S', h' = x_hC S' tl ∧ KF S S' ∧ (r.1 = -1 → KS S' r.2.1 r.2.2.1 r.2.2.2 ∧ (37 ≤ w → S'.1 10 = bI (decide (a ≠ 0))))
theorem kr_p {S : x_S} {tl : List va_E} {w : Nat} {r : pR} {a : Int} {v : Option Value} {h' : List va_E} (hw : w < 37) (h : kp S tl r v h') : kr S tl w r a v h' := by
  obtain ⟨h1, S', h2, h3, h4⟩ := h
  exact ⟨h1, S', h2, h3, fun z => ⟨h4 z, fun y => by omega⟩⟩
theorem kr_q {S : x_S} {tl : List va_E} {w : Nat} {r : pR} {a : Int} {v : Option Value} {h' : List va_E} (h : kq S tl r a v h') : kr S tl w r a v h' := by
  obtain ⟨h1, S', h2, h3, h4⟩ := h
  exact ⟨h1, S', h2, h3, fun z => ⟨(h4 z).1, fun _ => (h4 z).2⟩⟩
theorem K_perfZ {l : Launch} {G : ax_G} (S : x_S) (tl : List va_E) (n : Nat) (u : Nat → Int) (t : Nat → Bool) (hW : WS n u t) (hK : KS S n u t) (num : Int) (hx : zI num) : ∀ w : Nat, w < 39 → AM l VV G K_perform_y K_perform_c 3 (some .int) 4 0 0 [.ref 150, .ref w, .int (iZ num)] (x_hC S tl) (fun v h' => kr S tl w (pS w num n u t) (u (n - 1)) v h')
  | 0, _ => (K_perform0_m S tl n u t hW hK num hx).mono (fun _ _ q => kr_p (by decide) q)
  | 1, _ => (K_perform1_m S tl n u t hW hK num hx).mono (fun _ _ q => kr_p (by decide) q)
  | 2, _ => (K_perform2_m S tl n u t hW hK num hx).mono (fun _ _ q => kr_p (by decide) q)
  | 3, _ => (K_perform3_m S tl n u t hW hK num hx).mono (fun _ _ q => kr_p (by decide) q)
  | 4, _ => (K_perform4_m S tl n u t hW hK num hx).mono (fun _ _ q => kr_p (by decide) q)
  | 5, _ => (K_perform5_m S tl n u t hW hK num hx).mono (fun _ _ q => kr_p (by decide) q)
  | 6, _ => (K_perform6_m S tl n u t hW hK num hx).mono (fun _ _ q => kr_p (by decide) q)
  | 7, _ => (K_perform7_m S tl n u t hW hK num hx).mono (fun _ _ q => kr_p (by decide) q)
  | 8, _ => (K_perform8_m S tl n u t hW hK num hx).mono (fun _ _ q => kr_p (by decide) q)
  | 9, _ => (K_perform9_m S tl n u t hW hK num hx).mono (fun _ _ q => kr_p (by decide) q)
  | 10, _ => (K_perform10_m S tl n u t hW hK num hx).mono (fun _ _ q => kr_p (by decide) q)
  | 11, _ => (K_perform11_m S tl n u t hW hK num hx).mono (fun _ _ q => kr_p (by decide) q)
  | 12, _ => (K_perform12_m S tl n u t hW hK num hx).mono (fun _ _ q => kr_p (by decide) q)
  | 13, _ => (K_perform13_m S tl n u t hW hK num hx).mono (fun _ _ q => kr_p (by decide) q)
  | 14, _ => (K_perform14_m S tl n u t hW hK num hx).mono (fun _ _ q => kr_p (by decide) q)
  | 15, _ => (K_perform15_m S tl n u t hW hK num hx).mono (fun _ _ q => kr_p (by decide) q)
  | 16, _ => (K_perform16_m S tl n u t hW hK num hx).mono (fun _ _ q => kr_p (by decide) q)
  | 17, _ => (K_perform17_m S tl n u t hW hK num hx).mono (fun _ _ q => kr_p (by decide) q)
  | 18, _ => (K_perform18_m S tl n u t hW hK num hx).mono (fun _ _ q => kr_p (by decide) q)
  | 19, _ => (K_perform19_m S tl n u t hW hK num hx).mono (fun _ _ q => kr_p (by decide) q)
  | 20, _ => (K_perform20_m S tl n u t hW hK num hx).mono (fun _ _ q => kr_p (by decide) q)
  | 21, _ => (K_perform21_m S tl n u t hW hK num hx).mono (fun _ _ q => kr_p (by decide) q)
  | 22, _ => (K_perform22_m S tl n u t hW hK num hx).mono (fun _ _ q => kr_p (by decide) q)
  | 23, _ => (K_perform23_m S tl n u t hW hK num hx).mono (fun _ _ q => kr_p (by decide) q)
  | 24, _ => (K_perform24_m S tl n u t hW hK num hx).mono (fun _ _ q => kr_p (by decide) q)
  | 25, _ => (K_perform25_m S tl n u t hW hK num hx).mono (fun _ _ q => kr_p (by decide) q)
  | 26, _ => (K_perform26_m S tl n u t hW hK num hx).mono (fun _ _ q => kr_p (by decide) q)
  | 27, _ => (K_perform27_m S tl n u t hW hK num hx).mono (fun _ _ q => kr_p (by decide) q)
  | 28, _ => (K_perform28_m S tl n u t hW hK num hx).mono (fun _ _ q => kr_p (by decide) q)
  | 29, _ => (K_perform29_m S tl n u t hW hK num hx).mono (fun _ _ q => kr_p (by decide) q)
  | 30, _ => (K_perform30_m S tl n u t hW hK num hx).mono (fun _ _ q => kr_p (by decide) q)
  | 31, _ => (K_perform31_m S tl n u t hW hK num hx).mono (fun _ _ q => kr_p (by decide) q)
  | 32, _ => (K_perform32_m S tl n u t hW hK num hx).mono (fun _ _ q => kr_p (by decide) q)
  | 33, _ => (K_perform33_m S tl n u t hW hK num hx).mono (fun _ _ q => kr_p (by decide) q)
  | 34, _ => (K_perform34_m S tl n u t hW hK num hx).mono (fun _ _ q => kr_p (by decide) q)
  | 35, _ => (K_perform35_m S tl n u t hW hK num hx).mono (fun _ _ q => kr_p (by decide) q)
  | 36, _ => (K_perform36_m S tl n u t hW hK num hx).mono (fun _ _ q => kr_p (by decide) q)
  | 37, _ => (K_perform37_m S tl n u t hW hK num hx).mono (fun _ _ q => kr_q q)
  | 38, _ => (K_perform38_m S tl n u t hW hK num hx).mono (fun _ _ q => kr_q q)
  | w + 39, h => absurd h (by omega)
theorem pS_num {a b : Int} {n : Nat} {u : Nat → Int} {t : Nat → Bool} : ∀ {w : Nat}, w < 39 → w ≠ 2 → pS w a n u t = pS w b n u t
  | 0, _, _ => rfl
  | 1, _, _ => rfl
  | 2, _, h => absurd rfl h
  | 3, _, _ => rfl
  | 4, _, _ => rfl
  | 5, _, _ => rfl
  | 6, _, _ => rfl
  | 7, _, _ => rfl
  | 8, _, _ => rfl
  | 9, _, _ => rfl
  | 10, _, _ => rfl
  | 11, _, _ => rfl
  | 12, _, _ => rfl
  | 13, _, _ => rfl
  | 14, _, _ => rfl
  | 15, _, _ => rfl
  | 16, _, _ => rfl
  | 17, _, _ => rfl
  | 18, _, _ => rfl
  | 19, _, _ => rfl
  | 20, _, _ => rfl
  | 21, _, _ => rfl
  | 22, _, _ => rfl
  | 23, _, _ => rfl
  | 24, _, _ => rfl
  | 25, _, _ => rfl
  | 26, _, _ => rfl
  | 27, _, _ => rfl
  | 28, _, _ => rfl
  | 29, _, _ => rfl
  | 30, _, _ => rfl
  | 31, _, _ => rfl
  | 32, _, _ => rfl
  | 33, _, _ => rfl
  | 34, _, _ => rfl
  | 35, _, _ => rfl
  | 36, _, _ => rfl
  | 37, _, _ => rfl
  | 38, _, _ => rfl
  | w + 39, h, _ => absurd h (by omega)
theorem K_perf {l : Launch} {G : ax_G} (S : x_S) (tl : List va_E) (n : Nat) (u : Nat → Int) (t : Nat → Bool) (hW : WS n u t) (hK : KS S n u t) (num : Int) (w : Nat) (hw : w < 39) (hx : w = 2 → zI num) : AM l VV G K_perform_y K_perform_c 3 (some .int) 4 0 0 [.ref 150, .ref w, .int (iZ num)] (x_hC S tl) (fun v h' => kr S tl w (pS w num n u t) (u (n - 1)) v h') := by
  by_cases z : w = 2
  · exact K_perfZ S tl n u t hW hK num (hx z) w hw
  · have h := K_perfZ (l := l) (G := G) S tl n u t hW hK (iZ num).toInt ⟨by have := Int32.le_toInt (iZ num); omega, by have := Int32.toInt_lt (iZ num); omega⟩ w hw
    rw [show iZ (iZ num).toInt = iZ num from (ti_i (iZ num)).symm, pS_num (b := num) hw z] at h
    exact h
theorem KF.out {S S' : x_S} (h : KF S S') : S'.2.1 3 = S.2.1 3 ∧ S'.1 3 = S.1 3 ∧ S'.1 4 = S.1 4 := ⟨h.2.1 3 (by decide) (by decide), h.1 3 (by decide) (by decide), h.1 4 (by decide) (by decide)⟩
/-- what a program's end may change -/
def TRf (S S' : x_S) : Prop := (∀ k, k ≠ 3 → k ≠ 4 → k ≠ 9 → k ≠ 10 → S'.1 k = S.1 k) ∧ (∀ k, k ≠ 3 → k ≠ 12 → k ≠ 13 → S'.2.1 k = S.2.1 k) ∧ S'.2.2 = S.2.2
theorem TRf.refl (S : x_S) : TRf S S := ⟨fun _ _ _ _ _ => rfl, fun _ _ _ _ => rfl, rfl⟩
theorem TRf.trans {S S1 S2 : x_S} (h : TRf S S1) (g : TRf S1 S2) : TRf S S2 := ⟨fun k a b c d => (g.1 k a b c d).trans (h.1 k a b c d), fun k a b c => (g.2.1 k a b c).trans (h.2.1 k a b c), g.2.2.trans h.2.2⟩
theorem TRf.k {S S1 : x_S} (h : KF S S1) : TRf S S1 := ⟨fun k _ _ a b => h.1 k a b, fun k _ a b => h.2.1 k a b, h.2.2⟩
theorem TRf.f (S : x_S) (x y : Int32) : TRf S (x_i (x_i S 3 x) 4 y) := ⟨fun k a b _ _ => (x_in _ _ b).trans (x_in _ _ a), fun _ _ _ _ => rfl, rfl⟩
theorem TRf.o (S : x_S) (g : Nat → Int32) : TRf S (x_A S 3 g) := ⟨fun _ _ _ _ _ => rfl, fun k a _ _ => va_up_ne _ _ a, rfl⟩
theorem pend_c (n : Nat) (t : Nat → Bool) (o : Nat) : pend n t o = -1 ∨ pend n t o = 10 ∨ pend n t o = 14 := by
  unfold pend; split
  · exact Or.inr (Or.inr rfl)
  · split
    · exact Or.inr (Or.inl rfl)
    · exact Or.inl rfl

set_option maxHeartbeats 4000000 in
set_option maxRecDepth 100000 in
theorem G_takeResults_m {l : Launch} {G : ax_G} (S : x_S) (tl : List va_E) (a b i o : Nat) (q : Nat → Int) (Q : pP) (hi : 1 ≤ i ∧ i ≤ 4) (ho : 1 ≤ o ∧ o ≤ 4) (hD : DQ tl b q (2 * (i + o))) (hP : DP tl a b i o Q) (h4 : qn Q ≤ 400) (hle : ∀ k, k < i + o → q (2 * k) ≤ q (2 * k + 1)) (Y : pM) (hW : WS Y.1 Y.2.1 Y.2.2) (hK : KS S Y.1 Y.2.1 Y.2.2) :
    AM l VV G G_takeResults_y G_takeResults_c 5 none 3 0 0 [.ref (153 + a), .ref 138, .ref 140] (x_hC S tl) (fun v h' => v = none ∧ ∃ S', h' = x_hC S' tl ∧ TRf S S' ∧ (pend Y.1 Y.2.2 o = -1 → (S'.1 3 = S.1 3 ∧ S'.1 4 = S.1 4) ∧ (∀ j, j < o → S'.2.1 3 j = iZ (zcut (Y.2.1 j) (q (2 * i + 2 * j)) (q (2 * i + 2 * j + 1)))) ∧ ∀ j, o ≤ j → S'.2.1 3 j = S.2.1 3 j) ∧ (pend Y.1 Y.2.2 o ≠ -1 → (S'.1 3 = iZ (pend Y.1 Y.2.2 o) ∧ S'.1 4 = nI (qn Q)) ∧ S'.2.1 3 = S.2.1 3)) := by
  refine AM.of (pl := pl_G) (by decide) v_good fl_G_ok kl_G_ok nofun (Nat.le_of_ble_eq_true rfl) ?_
  intro p0v e0v s0v m0v args below meth c0v X
  obtain ⟨hL, T, hT, hQ⟩ := hD
  obtain ⟨bw, bn, bo, be, W, A, B, C, hO, hBw, hBn, hBo, hBe, hJ⟩ := hP
  refine AW.run X G_takeResults_d 0 1 rfl ?_
  refine AW.get X ((x_tl _ tl a).trans hO) rfl rfl (G_takeResults_d.d 1 rfl) ?_
  refine AW.run X G_takeResults_d 2 1 rfl ?_
  refine AW.get X ((x_tl _ tl a).trans hO) rfl rfl (G_takeResults_d.d 3 rfl) ?_
  refine AW.callV (As := [.int (nI o)]) X (K_faultAtEnd_m S tl Y.1 Y.2.1 Y.2.2 hW hK o ho.2) cb_G_94 rfl rfl K_faultAtEnd_im K_faultAtEnd_se rfl ⟨Nat.le_of_ble_eq_true rfl, Nat.le_of_ble_eq_true rfl⟩ (Nat.le_of_ble_eq_true rfl) ⟨Nat.le_of_ble_eq_true rfl, Nat.le_of_ble_eq_true rfl⟩ (G_takeResults_d.d 4 rfl) (fun v h' q => ?_)
  obtain ⟨rfl, rfl⟩ := q
  refine AW.run X G_takeResults_d 5 3 rfl ?_
  have hpc := pend_c Y.1 Y.2.2 o
  have hpi : iZ (pend Y.1 Y.2.2 o) = Int32.ofInt (-1) ↔ pend Y.1 Y.2.2 o = -1 := iZ_eq (b := -1) ⟨by omega, by omega⟩ ⟨by decide, by decide⟩
  refine AW.icmp_eq X (G_takeResults_d.d 8 rfl) (fun q8 => ?_) (fun q8 => ?_)
  · have hp1 := hpi.mp q8
    have hYo : Y.1 = o := by
      apply Classical.byContradiction
      intro z
      rw [pend_14 z] at hp1
      exact absurd hp1 (by decide)
    have h60 := hW.1
    refine AW.run X G_takeResults_d 15 2 rfl ?_
    have L30 : ∀ (t2 k : Nat) (g : Nat → Int32), k ≤ o → o - k < t2 → (∀ j, j < k → g j = iZ (zcut (Y.2.1 j) (q (2 * i + 2 * j)) (q (2 * i + 2 * j + 1)))) → (∀ j, k ≤ j → g j = S.2.1 3 j) → AW p0v l e0v (ax_R 3 0 0) s0v m0v args below meth c0v VV G 5 (x_hC (x_A S 3 g) tl) 0 0 (MQ below (ax_Q VV G (fun v h' => v = none ∧ ∃ S', h' = x_hC S' tl ∧ TRf S S' ∧ (pend Y.1 Y.2.2 o = -1 → (S'.1 3 = S.1 3 ∧ S'.1 4 = S.1 4) ∧ (∀ j, j < o → S'.2.1 3 j = iZ (zcut (Y.2.1 j) (q (2 * i + 2 * j)) (q (2 * i + 2 * j + 1)))) ∧ ∀ j, o ≤ j → S'.2.1 3 j = S.2.1 3 j) ∧ (pend Y.1 Y.2.2 o ≠ -1 → (S'.1 3 = iZ (pend Y.1 Y.2.2 o) ∧ S'.1 4 = nI (qn Q)) ∧ S'.2.1 3 = S.2.1 3))) args s0v 0 0 (fun q => G.bs ≤ q)) 30 [(4, .int (nI k)), (3, .int (iZ (pend Y.1 Y.2.2 o))), (0, .ref (153 + a)), (1, .ref 138), (2, .ref 140)] [] := by
      intro t2
      induction t2 with
      | zero => intro k g a1 a2; exact absurd a2 (by omega)
      | succ t2 ih =>
        intro k g a1 a2 a3 a4
        refine AW.run X G_takeResults_d 17 2 rfl ?_
        refine AW.get X ((x_tl _ tl a).trans hO) rfl rfl (G_takeResults_d.d 19 rfl) ?_
        refine AW.icmp_ge X (G_takeResults_d.d 20 rfl) (fun q20 => ?_) (fun q20 => ?_)
        · exact AW.vret X (G_takeResults_d.d 39 rfl) (Nat.le_of_ble_eq_true rfl) (Nat.le_of_ble_eq_true rfl) ⟨rfl, _, rfl, TRf.o S g, fun _ => ⟨⟨rfl, rfl⟩, fun j hj => (congrFun (va_up_self S.2.1 3 g) j).trans (a3 j (by have := cge q20; omega)), fun j hj => (congrFun (va_up_self S.2.1 3 g) j).trans (a4 j (by have := cge q20; omega))⟩, fun z => absurd hp1 z⟩
        · have hk : k < o := clt q20
          refine AW.run X G_takeResults_d 21 4 rfl ?_
          refine AW.get X ((x_tl _ tl a).trans hO) rfl rfl (G_takeResults_d.d 25 rfl) ?_
          refine AW.run X G_takeResults_d 26 2 rfl ?_
          refine AW.cl12 (j := k) X rfl (by omega) (G_takeResults_d.d 28 rfl) ?_
          rw [show (x_A S 3 g).2.1 12 k = iZ (Y.2.1 k) from (hK.2 k (by omega)).1]
          refine AW.run X G_takeResults_d 29 2 rfl ?_
          refine AW.get X ((x_tl _ tl a).trans hO) rfl rfl (G_takeResults_d.d 31 rfl) ?_
          refine AW.run X G_takeResults_d 32 3 rfl ?_
          rw [show Int32.ofInt 2 * (nI i + nI k) = nI (2 * i + 2 * k) from by rw [nI_add, show Int32.ofInt 2 * nI (i + k) = nI (2 * (i + k)) from pk_mul 2 (i + k)]; congr 1; omega]
          refine AW.callU (rc := ("NumberFunctions$Program", Cl_G, 9)) (As := [.int (iZ (Y.2.1 k)), .int (nI (2 * i + 2 * k))]) X (F_withinPair_m (153 + a) (153 + b) 8 8 (2 * i + 2 * k) (2 * (i + o)) _ T (Y.2.1 k) (q (2 * i + 2 * k)) (q (2 * i + 2 * k + 1)) ((x_tl _ tl a).trans hO) rfl rfl ((x_tl _ tl b).trans hT) hL (by omega) (hQ (2 * i + 2 * k) (by omega)).1 (hQ (2 * i + 2 * k + 1) (by omega)).1 (hW.2 k (by omega)).1 (hQ (2 * i + 2 * k) (by omega)).2 (hQ (2 * i + 2 * k + 1) (by omega)).2 (by have := hle (i + k) (by omega); rw [show 2 * (i + k) = 2 * i + 2 * k by omega] at this; exact this)) cu_G_62_G ((x_tl _ tl a).trans hO) rfl rfl ⟨Nat.le_of_ble_eq_true rfl, Nat.le_of_ble_eq_true rfl⟩ (Nat.le_of_ble_eq_true rfl) ⟨Nat.le_of_ble_eq_true rfl, Nat.le_of_ble_eq_true rfl⟩ (G_takeResults_d.d 35 rfl) (fun v h' q => ?_)
          obtain ⟨rfl, rfl⟩ := q
          refine AW.cs3 (j := k) X rfl (by omega) (G_takeResults_d.d 36 rfl) ?_
          refine AW.run X G_takeResults_d 37 1 rfl ?_
          refine AW.goto X (G_takeResults_d.d 38 rfl) ?_
          rw [nI_o1, x_aA]
          exact ih (k + 1) _ (by omega) (by omega) (fun j hj => by
            by_cases z : j = k
            · rw [z, upd_s]
            · rw [upd_n z]; exact a3 j (by omega)) (fun j hj => by rw [upd_n (by omega)]; exact a4 j (by omega))
    exact AW.eq (h' := x_hC (x_A S 3 (S.2.1 3)) tl) (by rw [x_A0]) (L30 (o + 1) 0 (S.2.1 3) (by omega) (by omega) (fun j hj => absurd hj (Nat.not_lt_zero j)) (fun j _ => rfl))
  · refine AW.run X G_takeResults_d 9 3 rfl ?_
    refine AW.get X ((x_tl _ tl a).trans hO) rfl rfl (G_takeResults_d.d 12 rfl) ?_
    refine AW.callV (As := [.int (iZ (pend Y.1 Y.2.2 o)), .int (nI (qn Q))]) X (U_set_m S tl _ _) cb_G_74 rfl rfl U_set_im U_set_se rfl ⟨Nat.le_of_ble_eq_true rfl, Nat.le_of_ble_eq_true rfl⟩ (Nat.le_of_ble_eq_true rfl) ⟨Nat.le_of_ble_eq_true rfl, Nat.le_of_ble_eq_true rfl⟩ (G_takeResults_d.d 13 rfl) (fun v h' q => ?_)
    obtain ⟨rfl, rfl⟩ := q
    exact AW.vret X (G_takeResults_d.d 14 rfl) (Nat.le_of_ble_eq_true rfl) (Nat.le_of_ble_eq_true rfl) ⟨rfl, _, rfl, TRf.f S _ _, fun z => absurd (hpi.mpr z) q8, fun _ => ⟨⟨(x_in (x_i S 3 _) (k := 4) (j := 3) _ (by decide)).trans (x_ig S 3 _), x_ig _ 4 _⟩, rfl⟩⟩

theorem va_same {α : Type} (f : Nat → α) (k : Nat) : va_up f k (f k) = f := by
  funext j
  by_cases z : j = k
  · rw [z, va_up_self]
  · rw [va_up_ne _ _ z]
theorem pg_0 {n : Nat} {u : Nat → Int} {t : Nat → Bool} {x : Int} {b : Bool} (h : n < 60) : pgive n u t 0 x b = (-1, n + 1, va_up u n (zk x), va_up t n b) := by
  unfold pgive
  rw [if_neg (by omega)]
  rfl

set_option maxHeartbeats 4000000 in
set_option maxRecDepth 100000 in
theorem G_evaluateS_m {l : Launch} {G : ax_G} (S : x_S) (tl : List va_E) (a b i o : Nat) (q : Nat → Int) (Q : pP) (hi : 1 ≤ i ∧ i ≤ 4) (ho : 1 ≤ o ∧ o ≤ 4) (hD : DQ tl b q (2 * (i + o))) (hP : DP tl a b i o Q) (h4 : qn Q ≤ 400) (hle : ∀ k, k < i + o → q (2 * k) ≤ q (2 * k + 1)) (inp : Nat → Int) (hin : ∀ k, k < i → zN (inp k) ∧ S.2.1 4 k = iZ (inp k)) (h38 : ∀ j, j < qn Q → qc Q j ≤ 38) (hnm : ∀ j, j < qn Q → qc Q j = 2 → zN (qm Q j)) (dd : Nat) (hdd : 6 ≤ dd) (Y : pM) (k0 : Nat) (hk0 : k0 ≤ qn Q) (hC0 : CC pfS (qc Q) (qt Q) (qe Q) (qm Q) (qn Q) k0 0 (i, uIn inp q, tNo) (qn Q) Y) :
    AM l VV G G_evaluate_y G_evaluate_c 9 none dd 0 0 [.ref (153 + a), .ref 139, .ref 138, .ref 140] (x_hC S tl) (fun v h' => v = none ∧ ∃ S', h' = x_hC S' tl ∧ TRf S S' ∧ (pend Y.1 Y.2.2 o = -1 → (S'.1 3 = S.1 3 ∧ S'.1 4 = S.1 4) ∧ (∀ j, j < o → S'.2.1 3 j = iZ (zcut (Y.2.1 j) (q (2 * i + 2 * j)) (q (2 * i + 2 * j + 1)))) ∧ ∀ j, o ≤ j → S'.2.1 3 j = S.2.1 3 j) ∧ (pend Y.1 Y.2.2 o ≠ -1 → (S'.1 3 = iZ (pend Y.1 Y.2.2 o) ∧ S'.1 4 = nI (qn Q)) ∧ S'.2.1 3 = S.2.1 3)) := by
  refine AM.of (pl := pl_G) (by decide) v_good fl_G_ok kl_G_ok nofun (Nat.le_of_ble_eq_true rfl) ?_
  intro p0v e0v s0v m0v args below meth c0v X
  obtain ⟨hL, T, hT, hQ⟩ := hD
  obtain ⟨bw, bn, bo, be, W, A, B, C, hO, hBw, hBn, hBo, hBe, hJ⟩ := hP
  refine AW.run X G_evaluate_d 0 1 rfl ?_
  refine AW.get X ((x_tl _ tl a).trans hO) rfl rfl (G_evaluate_d.d 1 rfl) ?_
  refine AW.run X G_evaluate_d 2 1 rfl ?_
  refine AW.cp9 X (G_evaluate_d.d 3 rfl) ?_
  refine AW.run X G_evaluate_d 4 2 rfl ?_
  have L11 : ∀ (t1 k : Nat) (S2 : x_S), k ≤ i → i - k < t1 → KF S S2 → KS S2 k (uIn inp q) tNo → AW p0v l e0v (ax_R dd 0 0) s0v m0v args below meth c0v VV G 9 (x_hC S2 tl) 0 0 (MQ below (ax_Q VV G (fun v h' => v = none ∧ ∃ S', h' = x_hC S' tl ∧ TRf S S' ∧ (pend Y.1 Y.2.2 o = -1 → (S'.1 3 = S.1 3 ∧ S'.1 4 = S.1 4) ∧ (∀ j, j < o → S'.2.1 3 j = iZ (zcut (Y.2.1 j) (q (2 * i + 2 * j)) (q (2 * i + 2 * j + 1)))) ∧ ∀ j, o ≤ j → S'.2.1 3 j = S.2.1 3 j) ∧ (pend Y.1 Y.2.2 o ≠ -1 → (S'.1 3 = iZ (pend Y.1 Y.2.2 o) ∧ S'.1 4 = nI (qn Q)) ∧ S'.2.1 3 = S.2.1 3))) args s0v 0 0 (fun q => G.bs ≤ q)) 11 [(4, .int (nI k)), (0, .ref (153 + a)), (1, .ref 139), (2, .ref 138), (3, .ref 140)] [] := by
    intro t1
    induction t1 with
    | zero => intro k S2 a1 a2; exact absurd a2 (by omega)
    | succ t1 ih1 =>
      intro k S2 a1 a2 hF2 hK2
      have hW2 : WS k (uIn inp q) tNo := ⟨by omega, fun j hj => ⟨zcut_N (hin j (by omega)).1 (hQ (2 * j) (by omega)).2 (hQ (2 * j + 1) (by omega)).2, fun z => by cases z⟩⟩
      refine AW.run X G_evaluate_d 6 2 rfl ?_
      refine AW.get X ((x_tl _ tl a).trans hO) rfl rfl (G_evaluate_d.d 8 rfl) ?_
      refine AW.icmp_ge X (G_evaluate_d.d 9 rfl) (fun q9 => ?_) (fun q9 => ?_)
      · have hki : k = i := by have := cge q9; omega
        refine AW.run X G_evaluate_d 27 4 rfl ?_
        have L55 : ∀ (t2 r at0 : Nat) (Z : pM) (S2 : x_S), (∃ k, CC pfS (qc Q) (qt Q) (qe Q) (qm Q) (qn Q) k at0 Z (qn Q) Y ∧ r + k ≤ qn Q ∧ k < t2) → KF S S2 → KS S2 Z.1 Z.2.1 Z.2.2 → WS Z.1 Z.2.1 Z.2.2 → AW p0v l e0v (ax_R dd 0 0) s0v m0v args below meth c0v VV G 9 (x_hC S2 tl) 0 0 (MQ below (ax_Q VV G (fun v h' => v = none ∧ ∃ S', h' = x_hC S' tl ∧ TRf S S' ∧ (pend Y.1 Y.2.2 o = -1 → (S'.1 3 = S.1 3 ∧ S'.1 4 = S.1 4) ∧ (∀ j, j < o → S'.2.1 3 j = iZ (zcut (Y.2.1 j) (q (2 * i + 2 * j)) (q (2 * i + 2 * j + 1)))) ∧ ∀ j, o ≤ j → S'.2.1 3 j = S.2.1 3 j) ∧ (pend Y.1 Y.2.2 o ≠ -1 → (S'.1 3 = iZ (pend Y.1 Y.2.2 o) ∧ S'.1 4 = nI (qn Q)) ∧ S'.2.1 3 = S.2.1 3))) args s0v 0 0 (fun q => G.bs ≤ q)) 55 [(5, .int (nI r)), (4, .int (nI at0)), (0, .ref (153 + a)), (1, .ref 139), (2, .ref 138), (3, .ref 140)] [] := by
          intro t2
          induction t2 with
          | zero => rintro r at0 Z S2 ⟨k, -, -, hk⟩; exact absurd hk (by omega)
          | succ t2 ih =>
            rintro r at0 Z S2 ⟨k, hC, hrk, hkt⟩ hF2 hK2 hW2
            have hab : at0 ≤ qn Q := by
              cases k with
              | zero => rw [hC.1]; exact Nat.le_refl _
              | succ k => exact Nat.le_of_lt hC.1
            refine AW.run X G_evaluate_d 31 2 rfl ?_
            refine AW.get X ((x_tl _ tl a).trans hO) rfl rfl (G_evaluate_d.d 33 rfl) ?_
            have J180 : ∀ (_u : Nat), Z = Y → AW p0v l e0v (ax_R dd 0 0) s0v m0v args below meth c0v VV G 9 (x_hC S2 tl) 0 0 (MQ below (ax_Q VV G (fun v h' => v = none ∧ ∃ S', h' = x_hC S' tl ∧ TRf S S' ∧ (pend Y.1 Y.2.2 o = -1 → (S'.1 3 = S.1 3 ∧ S'.1 4 = S.1 4) ∧ (∀ j, j < o → S'.2.1 3 j = iZ (zcut (Y.2.1 j) (q (2 * i + 2 * j)) (q (2 * i + 2 * j + 1)))) ∧ ∀ j, o ≤ j → S'.2.1 3 j = S.2.1 3 j) ∧ (pend Y.1 Y.2.2 o ≠ -1 → (S'.1 3 = iZ (pend Y.1 Y.2.2 o) ∧ S'.1 4 = nI (qn Q)) ∧ S'.2.1 3 = S.2.1 3))) args s0v 0 0 (fun q => G.bs ≤ q)) 180 [(0, .ref (153 + a)), (1, .ref 139), (2, .ref 138), (3, .ref 140)] [] := by
              intro _u hZY
              refine AW.run X G_evaluate_d 90 3 rfl ?_
              refine AW.callV (As := [.ref 138, .ref 140]) X (G_takeResults_m S2 tl a b i o q Q hi ho ⟨hL, T, hT, hQ⟩ ⟨bw, bn, bo, be, W, A, B, C, hO, hBw, hBn, hBo, hBe, hJ⟩ h4 hle Y (hZY ▸ hW2) (hZY ▸ hK2)) cb_G_87 ((x_tl _ tl a).trans hO) rfl G_takeResults_im G_takeResults_se rfl ⟨by show _ ≤ dd; omega, by show _ ≤ 40 * (dd); omega⟩ (Nat.le_of_ble_eq_true rfl) ⟨Nat.le_of_ble_eq_true rfl, Nat.le_of_ble_eq_true rfl⟩ (G_evaluate_d.d 93 rfl) (fun v h' q => ?_)
              obtain ⟨rfl, S7, rfl, t1, t2', t3⟩ := q
              exact AW.vret X (G_evaluate_d.d 94 rfl) (Nat.le_of_ble_eq_true rfl) (Nat.le_of_ble_eq_true rfl) (by
                have f1 := hF2.out
                exact ⟨rfl, S7, rfl, (TRf.k hF2).trans t1, fun z => ⟨⟨(t2' z).1.1.trans f1.2.1, (t2' z).1.2.trans f1.2.2⟩, (t2' z).2.1, fun j hj => ((t2' z).2.2 j hj).trans (by rw [f1.1])⟩, fun z => ⟨(t3 z).1, (t3 z).2.trans f1.1⟩⟩)
            refine AW.icmp_ge X (G_evaluate_d.d 34 rfl) (fun q34 => ?_) (fun q34 => ?_)
            · refine AW.pk [2, 3, 4, 5] rfl ?_
              exact J180 0 (by
                cases k with
                | zero => exact hC.2
                | succ k => have := cge q34; omega)
            · refine AW.run X G_evaluate_d 35 2 rfl ?_
              refine AW.get X ((x_tl _ tl a).trans hO) rfl rfl (G_evaluate_d.d 37 rfl) ?_
              refine AW.icmp_ge X (G_evaluate_d.d 38 rfl) (fun q38 => ?_) (fun q38 => ?_)
              · refine AW.pk [2, 3, 4, 5] rfl ?_
                exact J180 0 (by
                  cases k with
                  | zero => exact hC.2
                  | succ k => have := hC.1; have := cge q38; omega)
              · have hat : at0 < qn Q := clt q38
                obtain ⟨kk, hkk⟩ := v_wg (qc Q at0) (by have := h38 at0 hat; omega)
                refine AW.run X G_evaluate_d 39 1 rfl ?_
                refine AW.get X ((x_tl _ tl a).trans hO) rfl rfl (G_evaluate_d.d 40 rfl) ?_
                refine AW.run X G_evaluate_d 41 1 rfl ?_
                refine AW.aald (j := at0) X ((x_tl _ tl bw).trans hBw) rfl rfl hat (by omega) (G_evaluate_d.d 42 rfl) ?_
                rw [(hJ at0 hat).1]
                refine AW.run X G_evaluate_d 43 2 rfl ?_
                refine AW.ifnonnull X (G_evaluate_d.d 45 rfl) ?_
                refine AW.run X G_evaluate_d 47 1 rfl ?_
                refine AW.get X ((x_tl _ tl a).trans hO) rfl rfl (G_evaluate_d.d 48 rfl) ?_
                refine AW.run X G_evaluate_d 49 2 rfl ?_
                refine AW.get X ((x_tl _ tl a).trans hO) rfl rfl (G_evaluate_d.d 51 rfl) ?_
                refine AW.run X G_evaluate_d 52 1 rfl ?_
                refine AW.iald (j := at0) X ((x_tl _ tl bn).trans hBn) rfl rfl hat (by omega) (G_evaluate_d.d 53 rfl) ?_
                rw [(hJ at0 hat).2.1]
                obtain ⟨k1, rfl⟩ : ∃ k1, k = k1 + 1 := by
                  cases k with
                  | zero => have := hC.1; omega
                  | succ k => exact ⟨k, rfl⟩
                have hr : (pS (qc Q at0) (qm Q at0) Z.1 Z.2.1 Z.2.2).1 = -1 := hC.2.1
                refine AW.callV (As := [.ref (qc Q at0), .int (iZ (qm Q at0))]) X (K_perf S2 tl Z.1 Z.2.1 Z.2.2 hW2 hK2 (qm Q at0) (qc Q at0) (by have := h38 at0 hat; omega) (fun z => zN_I (hnm at0 hat z))) cb_G_70 rfl rfl K_perform_im K_perform_se rfl ⟨by show _ ≤ dd; omega, by show _ ≤ 40 * (dd); omega⟩ (Nat.le_of_ble_eq_true rfl) ⟨Nat.le_of_ble_eq_true rfl, Nat.le_of_ble_eq_true rfl⟩ (G_evaluate_d.d 54 rfl) (fun v h' q => ?_)
                obtain ⟨rfl, S3, rfl, kF, kS⟩ := q
                have kS := kS hr
                rw [hr]
                refine AW.run X G_evaluate_d 55 3 rfl ?_
                refine AW.icmp_eq X (G_evaluate_d.d 58 rfl) (fun q58 => ?_) (fun q58 => absurd rfl q58)
                refine AW.run X G_evaluate_d 64 1 rfl ?_
                refine AW.get X ((x_at _ tl (by have := h38 at0 hat; omega)).trans hkk) rfl rfl (G_evaluate_d.d 65 rfl) ?_
                refine AW.run X G_evaluate_d 66 1 rfl ?_
                refine AW.icmp_ne X (G_evaluate_d.d 67 rfl) (fun q67 => ?_) (fun q67 => ?_)
                · refine AW.run X G_evaluate_d 74 3 rfl ?_
                  refine AW.if_eq X (G_evaluate_d.d 77 rfl) (fun q77 => ?_) (fun q77 => absurd rfl q77)
                  refine AW.run X G_evaluate_d 83 1 rfl ?_
                  refine AW.get X ((x_tl _ tl a).trans hO) rfl rfl (G_evaluate_d.d 84 rfl) ?_
                  refine AW.run X G_evaluate_d 85 1 rfl ?_
                  refine AW.iald (j := at0) X ((x_tl _ tl bo).trans hBo) rfl rfl hat (by omega) (G_evaluate_d.d 86 rfl) ?_
                  rw [(hJ at0 hat).2.2.1]
                  refine AW.run X G_evaluate_d 87 2 rfl ?_
                  refine AW.goto X (G_evaluate_d.d 89 rfl) ?_
                  refine AW.pk [0, 1, 5, 6, 7, 8] rfl ?_
                  rw [nI_o1]
                  exact ih (r + 1) _ _ S3 ⟨k1, (by have := hC.2.2; rw [if_neg (fun z => (fun z => q67 (by rw [(wgp_9 (by have := h38 at0 hat; omega)).mpr z]; rfl)) z.1)] at this; exact this), by omega, by omega⟩ (hF2.trans kF) (kS.1) (WS_S hW2 (h38 at0 hat) hr)
                · refine AW.run X G_evaluate_d 68 1 rfl ?_
                  refine AW.get X ((x_tl _ tl a).trans hO) rfl rfl (G_evaluate_d.d 69 rfl) ?_
                  refine AW.run X G_evaluate_d 70 1 rfl ?_
                  refine AW.if_ne X (G_evaluate_d.d 71 rfl) (fun q71 => ?_) (fun q71 => ?_)
                  · refine AW.run X G_evaluate_d 74 3 rfl ?_
                    refine AW.if_eq X (G_evaluate_d.d 77 rfl) (fun q77 => ?_) (fun q77 => absurd rfl q77)
                    refine AW.run X G_evaluate_d 83 1 rfl ?_
                    refine AW.get X ((x_tl _ tl a).trans hO) rfl rfl (G_evaluate_d.d 84 rfl) ?_
                    refine AW.run X G_evaluate_d 85 1 rfl ?_
                    refine AW.iald (j := at0) X ((x_tl _ tl bo).trans hBo) rfl rfl hat (by omega) (G_evaluate_d.d 86 rfl) ?_
                    rw [(hJ at0 hat).2.2.1]
                    refine AW.run X G_evaluate_d 87 2 rfl ?_
                    refine AW.goto X (G_evaluate_d.d 89 rfl) ?_
                    refine AW.pk [0, 1, 5, 6, 7, 8] rfl ?_
                    rw [nI_o1]
                    exact ih (r + 1) _ _ S3 ⟨k1, (by
                      have h9 := kS.2 ((wgp_9 (by have := h38 at0 hat; omega)).mp ((nI_eq (by have := wgp_l (w := qc Q at0) (by have := h38 at0 hat; omega); omega) (by decide)).mp q67))
                      have := hC.2.2
                      rw [if_neg (fun z => q71 (by rw [h9]; exact (bI_0 _).mpr z.2))] at this
                      exact this), by omega, by omega⟩ (hF2.trans kF) (kS.1) (WS_S hW2 (h38 at0 hat) hr)
                  · refine AW.run X G_evaluate_d 72 1 rfl ?_
                    refine AW.goto X (G_evaluate_d.d 73 rfl) ?_
                    refine AW.run X G_evaluate_d 75 2 rfl ?_
                    refine AW.if_eq X (G_evaluate_d.d 77 rfl) (fun q77 => absurd q77 (by decide)) (fun q77 => ?_)
                    refine AW.run X G_evaluate_d 78 1 rfl ?_
                    refine AW.get X ((x_tl _ tl a).trans hO) rfl rfl (G_evaluate_d.d 79 rfl) ?_
                    refine AW.run X G_evaluate_d 80 1 rfl ?_
                    refine AW.iald (j := at0) X ((x_tl _ tl be).trans hBe) rfl rfl hat (by omega) (G_evaluate_d.d 81 rfl) ?_
                    rw [(hJ at0 hat).2.2.2]
                    refine AW.goto X (G_evaluate_d.d 82 rfl) ?_
                    refine AW.run X G_evaluate_d 87 2 rfl ?_
                    refine AW.goto X (G_evaluate_d.d 89 rfl) ?_
                    refine AW.pk [0, 1, 5, 6, 7, 8] rfl ?_
                    rw [nI_o1]
                    exact ih (r + 1) _ _ S3 ⟨k1, (by
                      have h9 := kS.2 ((wgp_9 (by have := h38 at0 hat; omega)).mp ((nI_eq (by have := wgp_l (w := qc Q at0) (by have := h38 at0 hat; omega); omega) (by decide)).mp q67))
                      have := hC.2.2
                      rw [if_pos ⟨((wgp_9 (by have := h38 at0 hat; omega)).mp ((nI_eq (by have := wgp_l (w := qc Q at0) (by have := h38 at0 hat; omega); omega) (by decide)).mp q67)), (bI_0 _).mp (h9.symm.trans q71)⟩] at this
                      exact this), by omega, by omega⟩ (hF2.trans kF) (kS.1) (WS_S hW2 (h38 at0 hat) hr)
        rw [hki] at hK2 hW2
        exact L55 (k0 + 1) 0 0 (i, uIn inp q, tNo) S2 ⟨k0, hC0, by omega, by omega⟩ hF2 hK2 hW2
      · have hk : k < i := clt q9
        refine AW.run X G_evaluate_d 10 1 rfl ?_
        refine AW.get X ((x_tl _ tl a).trans hO) rfl rfl (G_evaluate_d.d 11 rfl) ?_
        refine AW.run X G_evaluate_d 12 4 rfl ?_
        refine AW.cl4 (j := k) X rfl (by omega) (G_evaluate_d.d 16 rfl) ?_
        rw [show S2.2.1 4 k = iZ (inp k) from by rw [hF2.2.1 4 (by decide) (by decide)]; exact (hin k hk).2]
        refine AW.run X G_evaluate_d 17 3 rfl ?_
        rw [(show Int32.ofInt 2 * nI k = nI (2 * k) from pk_mul 2 k)]
        refine AW.callU (rc := ("NumberFunctions$Program", Cl_G, 9)) (As := [.int (iZ (inp k)), .int (nI (2 * k))]) X (F_withinPair_m (153 + a) (153 + b) 8 8 (2 * k) (2 * (i + o)) _ T (inp k) (q (2 * k)) (q (2 * k + 1)) ((x_tl _ tl a).trans hO) rfl rfl ((x_tl _ tl b).trans hT) hL (by omega) (hQ (2 * k) (by omega)).1 (hQ (2 * k + 1) (by omega)).1 (hin k hk).1 (hQ (2 * k) (by omega)).2 (hQ (2 * k + 1) (by omega)).2 (hle k (by omega))) cu_G_62_G ((x_tl _ tl a).trans hO) rfl rfl ⟨by show _ ≤ dd; omega, by show _ ≤ 40 * (dd); omega⟩ (Nat.le_of_ble_eq_true rfl) ⟨Nat.le_of_ble_eq_true rfl, Nat.le_of_ble_eq_true rfl⟩ (G_evaluate_d.d 20 rfl) (fun v h' q => ?_)
        obtain ⟨rfl, rfl⟩ := q
        rw [show zcut (inp k) (q (2 * k)) (q (2 * k + 1)) = uIn inp q k from rfl]
        refine AW.run X G_evaluate_d 21 2 rfl ?_
        rw [iZ_l (z := uIn inp q k) (zN_I (zcut_N (hin k hk).1 (hQ (2 * k) (by omega)).2 (hQ (2 * k + 1) (by omega)).2))]
        refine AW.callV (As := [.int (nI 0), .long (lZ (uIn inp q k)), .int (bI false)]) X (K_give_m S2 tl k 0 (uIn inp q) tNo hW2 hK2 (uIn inp q k) false (Nat.zero_le _) (zN_L (zcut_N (hin k hk).1 (hQ (2 * k) (by omega)).2 (hQ (2 * k + 1) (by omega)).2))) cb_G_66 rfl rfl K_give_im K_give_se rfl ⟨by show _ ≤ dd; omega, by show _ ≤ 40 * (dd); omega⟩ (Nat.le_of_ble_eq_true rfl) ⟨Nat.le_of_ble_eq_true rfl, Nat.le_of_ble_eq_true rfl⟩ (G_evaluate_d.d 23 rfl) (fun v h' q => ?_)
        obtain ⟨rfl, S3, rfl, kF, kS⟩ := q
        rw [pg_0 (by omega)] at kS ⊢
        have kS2 : KS S3 (k + 1) (va_up (uIn inp q) k (zk (uIn inp q k))) (va_up tNo k false) := kS rfl
        rw [show zk (uIn inp q k) = uIn inp q k from zk_id (zcut_N (hin k hk).1 (hQ (2 * k) (by omega)).2 (hQ (2 * k + 1) (by omega)).2)] at kS2
        refine AW.run X G_evaluate_d 24 2 rfl ?_
        refine AW.goto X (G_evaluate_d.d 26 rfl) ?_
        rw [nI_o1]
        exact ih1 (k + 1) S3 (by omega) (by omega) (hF2.trans kF) (by rw [← va_same (uIn inp q) k, ← va_same tNo k]; exact kS2)
  exact L11 (i + 1) 0 (x_i S 9 (Int32.ofInt 0)) (by omega) (by omega) (KF.i S _) ⟨x_ig S 9 _, fun j hj => absurd hj (Nat.not_lt_zero j)⟩

set_option maxHeartbeats 4000000 in
set_option maxRecDepth 100000 in
theorem G_evaluateF_m {l : Launch} {G : ax_G} (S : x_S) (tl : List va_E) (a b i o : Nat) (q : Nat → Int) (Q : pP) (hi : 1 ≤ i ∧ i ≤ 4) (ho : 1 ≤ o ∧ o ≤ 4) (hD : DQ tl b q (2 * (i + o))) (hP : DP tl a b i o Q) (h4 : qn Q ≤ 400) (hle : ∀ k, k < i + o → q (2 * k) ≤ q (2 * k + 1)) (inp : Nat → Int) (hin : ∀ k, k < i → zN (inp k) ∧ S.2.1 4 k = iZ (inp k)) (h38 : ∀ j, j < qn Q → qc Q j ≤ 38) (hnm : ∀ j, j < qn Q → qc Q j = 2 → zN (qm Q j)) (dd : Nat) (hdd : 6 ≤ dd) (c : Int) (p k0 : Nat) (Y : pM) (hc : c ≠ -1) (hcz : iZ c ≠ -1) (hp : p < qn Q) (hk0 : k0 < qn Q) (hC0 : CC pfS (qc Q) (qt Q) (qe Q) (qm Q) (qn Q) k0 0 (i, uIn inp q, tNo) p Y) (hf : (pfS (qc Q p) (qm Q p) Y).1 = c) :
    AM l VV G G_evaluate_y G_evaluate_c 9 none dd 0 0 [.ref (153 + a), .ref 139, .ref 138, .ref 140] (x_hC S tl) (fun v h' => v = none ∧ ∃ S', h' = x_hC S' tl ∧ TRf S S' ∧ (S'.1 3 = iZ c ∧ S'.1 4 = nI p) ∧ S'.2.1 3 = S.2.1 3) := by
  refine AM.of (pl := pl_G) (by decide) v_good fl_G_ok kl_G_ok nofun (Nat.le_of_ble_eq_true rfl) ?_
  intro p0v e0v s0v m0v args below meth c0v X
  obtain ⟨hL, T, hT, hQ⟩ := hD
  obtain ⟨bw, bn, bo, be, W, A, B, C, hO, hBw, hBn, hBo, hBe, hJ⟩ := hP
  refine AW.run X G_evaluate_d 0 1 rfl ?_
  refine AW.get X ((x_tl _ tl a).trans hO) rfl rfl (G_evaluate_d.d 1 rfl) ?_
  refine AW.run X G_evaluate_d 2 1 rfl ?_
  refine AW.cp9 X (G_evaluate_d.d 3 rfl) ?_
  refine AW.run X G_evaluate_d 4 2 rfl ?_
  have L11 : ∀ (t1 k : Nat) (S2 : x_S), k ≤ i → i - k < t1 → KF S S2 → KS S2 k (uIn inp q) tNo → AW p0v l e0v (ax_R dd 0 0) s0v m0v args below meth c0v VV G 9 (x_hC S2 tl) 0 0 (MQ below (ax_Q VV G (fun v h' => v = none ∧ ∃ S', h' = x_hC S' tl ∧ TRf S S' ∧ (S'.1 3 = iZ c ∧ S'.1 4 = nI p) ∧ S'.2.1 3 = S.2.1 3)) args s0v 0 0 (fun q => G.bs ≤ q)) 11 [(4, .int (nI k)), (0, .ref (153 + a)), (1, .ref 139), (2, .ref 138), (3, .ref 140)] [] := by
    intro t1
    induction t1 with
    | zero => intro k S2 a1 a2; exact absurd a2 (by omega)
    | succ t1 ih1 =>
      intro k S2 a1 a2 hF2 hK2
      have hW2 : WS k (uIn inp q) tNo := ⟨by omega, fun j hj => ⟨zcut_N (hin j (by omega)).1 (hQ (2 * j) (by omega)).2 (hQ (2 * j + 1) (by omega)).2, fun z => by cases z⟩⟩
      refine AW.run X G_evaluate_d 6 2 rfl ?_
      refine AW.get X ((x_tl _ tl a).trans hO) rfl rfl (G_evaluate_d.d 8 rfl) ?_
      refine AW.icmp_ge X (G_evaluate_d.d 9 rfl) (fun q9 => ?_) (fun q9 => ?_)
      · have hki : k = i := by have := cge q9; omega
        refine AW.run X G_evaluate_d 27 4 rfl ?_
        have L55 : ∀ (t2 r at0 : Nat) (Z : pM) (S2 : x_S), (∃ k, CC pfS (qc Q) (qt Q) (qe Q) (qm Q) (qn Q) k at0 Z p Y ∧ r + k < qn Q ∧ k < t2) → KF S S2 → KS S2 Z.1 Z.2.1 Z.2.2 → WS Z.1 Z.2.1 Z.2.2 → AW p0v l e0v (ax_R dd 0 0) s0v m0v args below meth c0v VV G 9 (x_hC S2 tl) 0 0 (MQ below (ax_Q VV G (fun v h' => v = none ∧ ∃ S', h' = x_hC S' tl ∧ TRf S S' ∧ (S'.1 3 = iZ c ∧ S'.1 4 = nI p) ∧ S'.2.1 3 = S.2.1 3)) args s0v 0 0 (fun q => G.bs ≤ q)) 55 [(5, .int (nI r)), (4, .int (nI at0)), (0, .ref (153 + a)), (1, .ref 139), (2, .ref 138), (3, .ref 140)] [] := by
          intro t2
          induction t2 with
          | zero => rintro r at0 Z S2 ⟨k, -, -, hk⟩; exact absurd hk (by omega)
          | succ t2 ih =>
            rintro r at0 Z S2 ⟨k, hC, hrk, hkt⟩ hF2 hK2 hW2
            have hab : at0 ≤ qn Q := by
              cases k with
              | zero => rw [hC.1]; omega
              | succ k => exact Nat.le_of_lt hC.1
            refine AW.run X G_evaluate_d 31 2 rfl ?_
            refine AW.get X ((x_tl _ tl a).trans hO) rfl rfl (G_evaluate_d.d 33 rfl) ?_
            refine AW.icmp_ge X (G_evaluate_d.d 34 rfl) (fun q34 => absurd (cge q34) (by omega)) (fun q34 => ?_)
            refine AW.run X G_evaluate_d 35 2 rfl ?_
            refine AW.get X ((x_tl _ tl a).trans hO) rfl rfl (G_evaluate_d.d 37 rfl) ?_
            refine AW.icmp_ge X (G_evaluate_d.d 38 rfl) (fun q38 => absurd (cge q38) (by
              cases k with
              | zero => rw [hC.1]; omega
              | succ k => have := hC.1; omega)) (fun q38 => ?_)
            have hat : at0 < qn Q := clt q38
            obtain ⟨kk, hkk⟩ := v_wg (qc Q at0) (by have := h38 at0 hat; omega)
            refine AW.run X G_evaluate_d 39 1 rfl ?_
            refine AW.get X ((x_tl _ tl a).trans hO) rfl rfl (G_evaluate_d.d 40 rfl) ?_
            refine AW.run X G_evaluate_d 41 1 rfl ?_
            refine AW.aald (j := at0) X ((x_tl _ tl bw).trans hBw) rfl rfl hat (by omega) (G_evaluate_d.d 42 rfl) ?_
            rw [(hJ at0 hat).1]
            refine AW.run X G_evaluate_d 43 2 rfl ?_
            refine AW.ifnonnull X (G_evaluate_d.d 45 rfl) ?_
            refine AW.run X G_evaluate_d 47 1 rfl ?_
            refine AW.get X ((x_tl _ tl a).trans hO) rfl rfl (G_evaluate_d.d 48 rfl) ?_
            refine AW.run X G_evaluate_d 49 2 rfl ?_
            refine AW.get X ((x_tl _ tl a).trans hO) rfl rfl (G_evaluate_d.d 51 rfl) ?_
            refine AW.run X G_evaluate_d 52 1 rfl ?_
            refine AW.iald (j := at0) X ((x_tl _ tl bn).trans hBn) rfl rfl hat (by omega) (G_evaluate_d.d 53 rfl) ?_
            rw [(hJ at0 hat).2.1]
            refine AW.callV (As := [.ref (qc Q at0), .int (iZ (qm Q at0))]) X (K_perf S2 tl Z.1 Z.2.1 Z.2.2 hW2 hK2 (qm Q at0) (qc Q at0) (by have := h38 at0 hat; omega) (fun z => zN_I (hnm at0 hat z))) cb_G_70 rfl rfl K_perform_im K_perform_se rfl ⟨by show _ ≤ dd; omega, by show _ ≤ 40 * (dd); omega⟩ (Nat.le_of_ble_eq_true rfl) ⟨Nat.le_of_ble_eq_true rfl, Nat.le_of_ble_eq_true rfl⟩ (G_evaluate_d.d 54 rfl) (fun v h' q => ?_)
            obtain ⟨rfl, S3, rfl, kF, kS⟩ := q
            rcases Nat.eq_zero_or_pos k with hk0z | hk0p
            · subst hk0z
              obtain ⟨rfl, rfl⟩ := hC
              rw [show pS (qc Q at0) (qm Q at0) Z.1 Z.2.1 Z.2.2 = pfS (qc Q at0) (qm Q at0) Z from rfl, hf]
              refine AW.run X G_evaluate_d 55 3 rfl ?_
              refine AW.icmp_eq X (G_evaluate_d.d 58 rfl) (fun q58 => absurd q58 hcz) (fun q58 => ?_)
              refine AW.run X G_evaluate_d 59 3 rfl ?_
              refine AW.callV (As := [.int (iZ c), .int (nI at0)]) X (U_set_m S3 tl _ _) cb_G_74 rfl rfl U_set_im U_set_se rfl ⟨by show _ ≤ dd; omega, by show _ ≤ 40 * (dd); omega⟩ (Nat.le_of_ble_eq_true rfl) ⟨Nat.le_of_ble_eq_true rfl, Nat.le_of_ble_eq_true rfl⟩ (G_evaluate_d.d 62 rfl) (fun v h' q => ?_)
              obtain ⟨rfl, rfl⟩ := q
              exact AW.vret X (G_evaluate_d.d 63 rfl) (Nat.le_of_ble_eq_true rfl) (Nat.le_of_ble_eq_true rfl) ⟨rfl, _, rfl, ((TRf.k (hF2.trans kF)).trans (TRf.f S3 _ _)), ⟨(x_in (x_i S3 3 _) (k := 4) (j := 3) _ (by decide)).trans (x_ig S3 3 _), x_ig _ 4 _⟩, (hF2.trans kF).out.1⟩
            · obtain ⟨k1, rfl⟩ : ∃ k1, k = k1 + 1 := ⟨k - 1, by omega⟩
              have hr : (pS (qc Q at0) (qm Q at0) Z.1 Z.2.1 Z.2.2).1 = -1 := hC.2.1
              have kS := kS hr
              rw [hr]
              refine AW.run X G_evaluate_d 55 3 rfl ?_
              refine AW.icmp_eq X (G_evaluate_d.d 58 rfl) (fun q58 => ?_) (fun q58 => absurd rfl q58)
              refine AW.run X G_evaluate_d 64 1 rfl ?_
              refine AW.get X ((x_at _ tl (by have := h38 at0 hat; omega)).trans hkk) rfl rfl (G_evaluate_d.d 65 rfl) ?_
              refine AW.run X G_evaluate_d 66 1 rfl ?_
              refine AW.icmp_ne X (G_evaluate_d.d 67 rfl) (fun q67 => ?_) (fun q67 => ?_)
              · refine AW.run X G_evaluate_d 74 3 rfl ?_
                refine AW.if_eq X (G_evaluate_d.d 77 rfl) (fun q77 => ?_) (fun q77 => absurd rfl q77)
                refine AW.run X G_evaluate_d 83 1 rfl ?_
                refine AW.get X ((x_tl _ tl a).trans hO) rfl rfl (G_evaluate_d.d 84 rfl) ?_
                refine AW.run X G_evaluate_d 85 1 rfl ?_
                refine AW.iald (j := at0) X ((x_tl _ tl bo).trans hBo) rfl rfl hat (by omega) (G_evaluate_d.d 86 rfl) ?_
                rw [(hJ at0 hat).2.2.1]
                refine AW.run X G_evaluate_d 87 2 rfl ?_
                refine AW.goto X (G_evaluate_d.d 89 rfl) ?_
                refine AW.pk [0, 1, 5, 6, 7, 8] rfl ?_
                rw [nI_o1]
                exact ih (r + 1) _ _ S3 ⟨k1, (by have := hC.2.2; rw [if_neg (fun z => (fun z => q67 (by rw [(wgp_9 (by have := h38 at0 hat; omega)).mpr z]; rfl)) z.1)] at this; exact this), by omega, by omega⟩ (hF2.trans kF) (kS.1) (WS_S hW2 (h38 at0 hat) hr)
              · refine AW.run X G_evaluate_d 68 1 rfl ?_
                refine AW.get X ((x_tl _ tl a).trans hO) rfl rfl (G_evaluate_d.d 69 rfl) ?_
                refine AW.run X G_evaluate_d 70 1 rfl ?_
                refine AW.if_ne X (G_evaluate_d.d 71 rfl) (fun q71 => ?_) (fun q71 => ?_)
                · refine AW.run X G_evaluate_d 74 3 rfl ?_
                  refine AW.if_eq X (G_evaluate_d.d 77 rfl) (fun q77 => ?_) (fun q77 => absurd rfl q77)
                  refine AW.run X G_evaluate_d 83 1 rfl ?_
                  refine AW.get X ((x_tl _ tl a).trans hO) rfl rfl (G_evaluate_d.d 84 rfl) ?_
                  refine AW.run X G_evaluate_d 85 1 rfl ?_
                  refine AW.iald (j := at0) X ((x_tl _ tl bo).trans hBo) rfl rfl hat (by omega) (G_evaluate_d.d 86 rfl) ?_
                  rw [(hJ at0 hat).2.2.1]
                  refine AW.run X G_evaluate_d 87 2 rfl ?_
                  refine AW.goto X (G_evaluate_d.d 89 rfl) ?_
                  refine AW.pk [0, 1, 5, 6, 7, 8] rfl ?_
                  rw [nI_o1]
                  exact ih (r + 1) _ _ S3 ⟨k1, (by
                    have h9 := kS.2 ((wgp_9 (by have := h38 at0 hat; omega)).mp ((nI_eq (by have := wgp_l (w := qc Q at0) (by have := h38 at0 hat; omega); omega) (by decide)).mp q67))
                    have := hC.2.2
                    rw [if_neg (fun z => q71 (by rw [h9]; exact (bI_0 _).mpr z.2))] at this
                    exact this), by omega, by omega⟩ (hF2.trans kF) (kS.1) (WS_S hW2 (h38 at0 hat) hr)
                · refine AW.run X G_evaluate_d 72 1 rfl ?_
                  refine AW.goto X (G_evaluate_d.d 73 rfl) ?_
                  refine AW.run X G_evaluate_d 75 2 rfl ?_
                  refine AW.if_eq X (G_evaluate_d.d 77 rfl) (fun q77 => absurd q77 (by decide)) (fun q77 => ?_)
                  refine AW.run X G_evaluate_d 78 1 rfl ?_
                  refine AW.get X ((x_tl _ tl a).trans hO) rfl rfl (G_evaluate_d.d 79 rfl) ?_
                  refine AW.run X G_evaluate_d 80 1 rfl ?_
                  refine AW.iald (j := at0) X ((x_tl _ tl be).trans hBe) rfl rfl hat (by omega) (G_evaluate_d.d 81 rfl) ?_
                  rw [(hJ at0 hat).2.2.2]
                  refine AW.goto X (G_evaluate_d.d 82 rfl) ?_
                  refine AW.run X G_evaluate_d 87 2 rfl ?_
                  refine AW.goto X (G_evaluate_d.d 89 rfl) ?_
                  refine AW.pk [0, 1, 5, 6, 7, 8] rfl ?_
                  rw [nI_o1]
                  exact ih (r + 1) _ _ S3 ⟨k1, (by
                    have h9 := kS.2 ((wgp_9 (by have := h38 at0 hat; omega)).mp ((nI_eq (by have := wgp_l (w := qc Q at0) (by have := h38 at0 hat; omega); omega) (by decide)).mp q67))
                    have := hC.2.2
                    rw [if_pos ⟨((wgp_9 (by have := h38 at0 hat; omega)).mp ((nI_eq (by have := wgp_l (w := qc Q at0) (by have := h38 at0 hat; omega); omega) (by decide)).mp q67)), (bI_0 _).mp (h9.symm.trans q71)⟩] at this
                    exact this), by omega, by omega⟩ (hF2.trans kF) (kS.1) (WS_S hW2 (h38 at0 hat) hr)
        rw [hki] at hK2 hW2
        exact L55 (k0 + 1) 0 0 (i, uIn inp q, tNo) S2 ⟨k0, hC0, by omega, by omega⟩ hF2 hK2 hW2
      · have hk : k < i := clt q9
        refine AW.run X G_evaluate_d 10 1 rfl ?_
        refine AW.get X ((x_tl _ tl a).trans hO) rfl rfl (G_evaluate_d.d 11 rfl) ?_
        refine AW.run X G_evaluate_d 12 4 rfl ?_
        refine AW.cl4 (j := k) X rfl (by omega) (G_evaluate_d.d 16 rfl) ?_
        rw [show S2.2.1 4 k = iZ (inp k) from by rw [hF2.2.1 4 (by decide) (by decide)]; exact (hin k hk).2]
        refine AW.run X G_evaluate_d 17 3 rfl ?_
        rw [(show Int32.ofInt 2 * nI k = nI (2 * k) from pk_mul 2 k)]
        refine AW.callU (rc := ("NumberFunctions$Program", Cl_G, 9)) (As := [.int (iZ (inp k)), .int (nI (2 * k))]) X (F_withinPair_m (153 + a) (153 + b) 8 8 (2 * k) (2 * (i + o)) _ T (inp k) (q (2 * k)) (q (2 * k + 1)) ((x_tl _ tl a).trans hO) rfl rfl ((x_tl _ tl b).trans hT) hL (by omega) (hQ (2 * k) (by omega)).1 (hQ (2 * k + 1) (by omega)).1 (hin k hk).1 (hQ (2 * k) (by omega)).2 (hQ (2 * k + 1) (by omega)).2 (hle k (by omega))) cu_G_62_G ((x_tl _ tl a).trans hO) rfl rfl ⟨by show _ ≤ dd; omega, by show _ ≤ 40 * (dd); omega⟩ (Nat.le_of_ble_eq_true rfl) ⟨Nat.le_of_ble_eq_true rfl, Nat.le_of_ble_eq_true rfl⟩ (G_evaluate_d.d 20 rfl) (fun v h' q => ?_)
        obtain ⟨rfl, rfl⟩ := q
        rw [show zcut (inp k) (q (2 * k)) (q (2 * k + 1)) = uIn inp q k from rfl]
        refine AW.run X G_evaluate_d 21 2 rfl ?_
        rw [iZ_l (z := uIn inp q k) (zN_I (zcut_N (hin k hk).1 (hQ (2 * k) (by omega)).2 (hQ (2 * k + 1) (by omega)).2))]
        refine AW.callV (As := [.int (nI 0), .long (lZ (uIn inp q k)), .int (bI false)]) X (K_give_m S2 tl k 0 (uIn inp q) tNo hW2 hK2 (uIn inp q k) false (Nat.zero_le _) (zN_L (zcut_N (hin k hk).1 (hQ (2 * k) (by omega)).2 (hQ (2 * k + 1) (by omega)).2))) cb_G_66 rfl rfl K_give_im K_give_se rfl ⟨by show _ ≤ dd; omega, by show _ ≤ 40 * (dd); omega⟩ (Nat.le_of_ble_eq_true rfl) ⟨Nat.le_of_ble_eq_true rfl, Nat.le_of_ble_eq_true rfl⟩ (G_evaluate_d.d 23 rfl) (fun v h' q => ?_)
        obtain ⟨rfl, S3, rfl, kF, kS⟩ := q
        rw [pg_0 (by omega)] at kS ⊢
        have kS2 : KS S3 (k + 1) (va_up (uIn inp q) k (zk (uIn inp q k))) (va_up tNo k false) := kS rfl
        rw [show zk (uIn inp q k) = uIn inp q k from zk_id (zcut_N (hin k hk).1 (hQ (2 * k) (by omega)).2 (hQ (2 * k + 1) (by omega)).2)] at kS2
        refine AW.run X G_evaluate_d 24 2 rfl ?_
        refine AW.goto X (G_evaluate_d.d 26 rfl) ?_
        rw [nI_o1]
        exact ih1 (k + 1) S3 (by omega) (by omega) (hF2.trans kF) (by rw [← va_same (uIn inp q) k, ← va_same tNo k]; exact kS2)
  exact L11 (i + 1) 0 (x_i S 9 (Int32.ofInt 0)) (by omega) (by omega) (KF.i S _) ⟨x_ig S 9 _, fun j hj => absurd hj (Nat.not_lt_zero j)⟩

