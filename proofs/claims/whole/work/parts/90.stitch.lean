/-! STITCHED functions, said once for both -/
def zpk (q : Nat → Int) (K : Nat) (x : Int) : Nat → Nat → Nat
  | 0, p => p
  | n + 1, p => if p < K - 1 ∧ q (3 + K + p) ≤ x then zpk q K x n (p + 1) else p
def zpt (q : Nat → Int) (K : Nat) (x : Int) (p : Nat) : Nat := zpk q K x (K - 1 - p) p
theorem zpt_1 {q : Nat → Int} {K p : Nat} {x : Int} (h : p < K - 1 ∧ q (3 + K + p) ≤ x) : zpt q K x p = zpt q K x (p + 1) := by
  unfold zpt
  rw [show K - 1 - p = (K - 1 - (p + 1)) + 1 by omega]
  show (if p < K - 1 ∧ q (3 + K + p) ≤ x then _ else _) = _
  rw [if_pos h]
theorem zpt_0 {q : Nat → Int} {K p : Nat} {x : Int} (h : ¬(p < K - 1 ∧ q (3 + K + p) ≤ x)) : zpt q K x p = p := by
  unfold zpt
  cases K - 1 - p with
  | zero => rfl
  | succ n => show (if p < K - 1 ∧ q (3 + K + p) ≤ x then _ else _) = _; rw [if_neg h]
theorem zpt_b {q : Nat → Int} {K : Nat} {x : Int} : ∀ n p, K - 1 - p = n → p ≤ K - 1 → (p = 0 ∨ q (2 + K + p) ≤ x) → zpt q K x p ≤ K - 1 ∧ (zpt q K x p = 0 ∨ q (2 + K + zpt q K x p) ≤ x) ∧ (zpt q K x p = K - 1 ∨ x < q (3 + K + zpt q K x p)) := by
  intro n
  induction n with
  | zero =>
    intro p h1 h2 h3
    rw [zpt_0 (by omega)]
    exact ⟨h2, h3, Or.inl (by omega)⟩
  | succ n ih =>
    intro p h1 h2 h3
    by_cases z : p < K - 1 ∧ q (3 + K + p) ≤ x
    · rw [zpt_1 z]
      exact ih (p + 1) (by omega) (by omega) (Or.inr (by rw [show 2 + K + (p + 1) = 3 + K + p by omega]; exact z.2))
    · rw [zpt_0 z]
      exact ⟨h2, h3, Or.inr (Int.not_le.mp (fun y => z ⟨by omega, y⟩))⟩
def zlo (q : Nat → Int) (K p : Nat) : Int := if p = 0 then q 0 else q (2 + K + p)
def zhi (q : Nat → Int) (K p : Nat) : Int := if p = K - 1 then q 1 else q (3 + K + p)
/-- which part, and what it is given -/
def zPt (q : Nat → Int) (K : Nat) (x : Int) : Nat := zpt q K (zcut x (q 0) (q 1)) 0
def zSt (q : Nat → Int) (K : Nat) (x : Int) : Int := zlaid (zcut x (q 0) (q 1)) (zlo q K (zPt q K x)) (zhi q K (zPt q K x)) (q (2 + 2 * K + 2 * zPt q K x)) (q (2 + 2 * K + 2 * zPt q K x + 1))
theorem zPt_b {q : Nat → Int} {K : Nat} {x : Int} (hK : 1 ≤ K) (h : q 0 ≤ q 1) : zPt q K x < K ∧ zlo q K (zPt q K x) ≤ zcut x (q 0) (q 1) ∧ zcut x (q 0) (q 1) ≤ zhi q K (zPt q K x) := by
  obtain ⟨a, b, c⟩ := zpt_b (q := q) (K := K) (x := zcut x (q 0) (q 1)) (K - 1 - 0) 0 rfl (by omega) (Or.inl rfl)
  have d := zcut_b (v := x) h
  refine ⟨by unfold zPt; omega, ?_, ?_⟩
  · show (if zpt q K _ 0 = 0 then q 0 else q (2 + K + zpt q K _ 0)) ≤ _
    split
    · exact d.1
    · rename_i z; exact b.resolve_left z
  · show _ ≤ (if zpt q K _ 0 = K - 1 then q 1 else q (3 + K + zpt q K _ 0))
    split
    · exact d.2
    · rename_i z; exact Int.le_of_lt (c.resolve_left z)
theorem zlaid_N {x p q r s : Int} (hr : zN r) : zN (zlaid x p q r s) := by
  unfold zlaid; split
  · exact hr
  · exact zk_N _
set_option maxHeartbeats 4000000 in
set_option maxRecDepth 100000 in
theorem M_stitched_m {l : Launch} {G : ax_G} (S : x_S) (M : x_M) (tl : List va_E) (f K : Nat) (q : Nat → Int) (x : Int) (hF : FQ M f q (4 * K + 2)) (hK : 1 ≤ K ∧ K ≤ 8) (h2 : q 2 = K) (hq : q 0 ≤ q 1) (hx : zN x) :
    AM l VV G M_stitched_y M_stitched_c 13 (some .long) 3 0 0 [.ref 153, .int (nI f), .long (lZ x)] (x_hM S M tl) (fun v h' => v = some (.long (lZ (zSt q K x))) ∧ h' = x_hM S (y_i M 12 (iZ (q (3 + zPt q K x)))) tl) := by
  refine AM.of (pl := pl_M) (by decide) v_good fl_M_ok kl_M_ok nofun (Nat.le_of_ble_eq_true rfl) ?_
  intro p0v e0v s0v m0v args below meth c0v X
  have hX : zN (zcut x (q 0) (q 1)) := zcut_N hx (hF.2.2 0 (by omega)).2 (hF.2.2 1 (by omega)).2
  refine AW.run X M_stitched_d 0 3 rfl ?_
  refine AW.callV (As := [.int (nI f), .int (nI (2))]) X (M_ofq_m S M tl f (2) _ q hF (by omega)) cb_M_320 rfl rfl M_of_im M_of_se rfl ⟨Nat.le_of_ble_eq_true rfl, Nat.le_of_ble_eq_true rfl⟩ (Nat.le_of_ble_eq_true rfl) ⟨Nat.le_of_ble_eq_true rfl, Nat.le_of_ble_eq_true rfl⟩ (M_stitched_d.d 3 rfl) (fun v h' q => ?_)
  obtain ⟨rfl, rfl⟩ := q
  refine AW.run X M_stitched_d 4 1 rfl ?_
  rw [lZ_i, h2, ← iZ_n]
  refine AW.run X M_stitched_d 5 5 rfl ?_
  refine AW.callV (As := [.int (nI f), .int (nI (0))]) X (M_ofq_m S M tl f (0) _ q hF (by omega)) cb_M_320 rfl rfl M_of_im M_of_se rfl ⟨Nat.le_of_ble_eq_true rfl, Nat.le_of_ble_eq_true rfl⟩ (Nat.le_of_ble_eq_true rfl) ⟨Nat.le_of_ble_eq_true rfl, Nat.le_of_ble_eq_true rfl⟩ (M_stitched_d.d 10 rfl) (fun v h' q => ?_)
  obtain ⟨rfl, rfl⟩ := q
  refine AW.run X M_stitched_d 11 3 rfl ?_
  refine AW.callV (As := [.int (nI f), .int (nI (1))]) X (M_ofq_m S M tl f (1) _ q hF (by omega)) cb_M_320 rfl rfl M_of_im M_of_se rfl ⟨Nat.le_of_ble_eq_true rfl, Nat.le_of_ble_eq_true rfl⟩ (Nat.le_of_ble_eq_true rfl) ⟨Nat.le_of_ble_eq_true rfl, Nat.le_of_ble_eq_true rfl⟩ (M_stitched_d.d 14 rfl) (fun v h' q => ?_)
  obtain ⟨rfl, rfl⟩ := q
  refine AW.callS (As := [.long (lZ x), .long (lZ (q 0)), .long (lZ (q 1))]) X (M_cutTo_m x (q 0) (q 1) (zN_L hx) (zN_L (hF.2.2 (0) (by omega)).2) (zN_L (hF.2.2 (1) (by omega)).2)) cb_M_104 M_cutTo_st rfl ⟨Nat.le_of_ble_eq_true rfl, Nat.le_of_ble_eq_true rfl⟩ (Nat.le_of_ble_eq_true rfl) ⟨Nat.le_of_ble_eq_true rfl, Nat.le_of_ble_eq_true rfl⟩ (M_stitched_d.d 15 rfl) (fun v h' q => ?_)
  obtain ⟨rfl, rfl⟩ := q
  refine AW.run X M_stitched_d 16 3 rfl ?_
  have L30 : ∀ (t2 p : Nat), p ≤ K - 1 → zpt q K (zcut x (q 0) (q 1)) p = zPt q K x → K - 1 - p < t2 → AW p0v l e0v (ax_R 3 0 0) s0v m0v args below meth c0v VV G 13 (x_hM S M tl) 0 0 (MQ below (ax_Q VV G (fun v h' => v = some (.long (lZ (zSt q K x))) ∧ h' = x_hM S (y_i M 12 (iZ (q (3 + zPt q K x)))) tl)) args s0v 0 0 (fun q => G.bs ≤ q)) 30 [(7, .int (nI p)), (5, .long (lZ (zcut x (q 0) (q 1)))), (4, .int (nI K)), (0, .ref 153), (1, .int (nI f)), (2, .long (lZ x))] [] := by
    intro t2
    induction t2 with
    | zero => intro p a1 a2 a3; exact absurd a3 (by omega)
    | succ t2 ih =>
      intro p a1 a2 a3
      have hk1 : nI K - Int32.ofInt 1 = nI (K - 1) := pk_sub (b := 1) hK.1
      refine AW.run X M_stitched_d 19 4 rfl ?_
      have J63 : ∀ (_u : Nat), zPt q K x = p → AW p0v l e0v (ax_R 3 0 0) s0v m0v args below meth c0v VV G 13 (x_hM S M tl) 0 0 (MQ below (ax_Q VV G (fun v h' => v = some (.long (lZ (zSt q K x))) ∧ h' = x_hM S (y_i M 12 (iZ (q (3 + zPt q K x)))) tl)) args s0v 0 0 (fun q => G.bs ≤ q)) 63 [(7, .int (nI p)), (5, .long (lZ (zcut x (q 0) (q 1)))), (4, .int (nI K)), (0, .ref 153), (1, .int (nI f)), (2, .long (lZ x))] [] := by
        intro _u hp
        have hb := zPt_b (q := q) (K := K) (x := x) hK.1 hq
        rw [hp] at hb
        have hlN : zN (zlo q K p) := by unfold zlo; split; exact (hF.2.2 0 (by omega)).2; exact (hF.2.2 _ (by omega)).2
        have hhN : zN (zhi q K p) := by unfold zhi; split; exact (hF.2.2 1 (by omega)).2; exact (hF.2.2 _ (by omega)).2
        refine AW.run X M_stitched_d 37 1 rfl ?_
        have J89 : ∀ (z : Int64), z = lZ (zlo q K p) → AW p0v l e0v (ax_R 3 0 0) s0v m0v args below meth c0v VV G 13 (x_hM S M tl) 0 0 (MQ below (ax_Q VV G (fun v h' => v = some (.long (lZ (zSt q K x))) ∧ h' = x_hM S (y_i M 12 (iZ (q (3 + zPt q K x)))) tl)) args s0v 0 0 (fun q => G.bs ≤ q)) 89 [(7, .int (nI p)), (5, .long (lZ (zcut x (q 0) (q 1)))), (4, .int (nI K)), (0, .ref 153), (1, .int (nI f)), (2, .long (lZ x))] [.long z] := by
          intro z hz; subst hz
          refine AW.run X M_stitched_d 52 5 rfl ?_
          have J121 : ∀ (z : Int64), z = lZ (zhi q K p) → AW p0v l e0v (ax_R 3 0 0) s0v m0v args below meth c0v VV G 13 (x_hM S M tl) 0 0 (MQ below (ax_Q VV G (fun v h' => v = some (.long (lZ (zSt q K x))) ∧ h' = x_hM S (y_i M 12 (iZ (q (3 + zPt q K x)))) tl)) args s0v 0 0 (fun q => G.bs ≤ q)) 121 [(8, .long (lZ (zlo q K p))), (7, .int (nI p)), (5, .long (lZ (zcut x (q 0) (q 1)))), (4, .int (nI K)), (0, .ref 153), (1, .int (nI f)), (2, .long (lZ x))] [.long z] := by
            intro z hz; subst hz
            refine AW.run X M_stitched_d 71 7 rfl ?_
            rw [show Int32.ofInt 3 + nI p = nI (3 + p) from nI_add 3 p]
            refine AW.callV (As := [.int (nI f), .int (nI (3 + p))]) X (M_ofq_m S M tl f (3 + p) _ q hF (by omega)) cb_M_320 rfl rfl M_of_im M_of_se rfl ⟨Nat.le_of_ble_eq_true rfl, Nat.le_of_ble_eq_true rfl⟩ (Nat.le_of_ble_eq_true rfl) ⟨Nat.le_of_ble_eq_true rfl, Nat.le_of_ble_eq_true rfl⟩ (M_stitched_d.d 78 rfl) (fun v h' q => ?_)
            obtain ⟨rfl, rfl⟩ := q
            refine AW.run X M_stitched_d 79 1 rfl ?_
            rw [lZ_i]
            refine AW.mp12 X (M_stitched_d.d 80 rfl) ?_
            have hF1 : FQ (y_i M 12 (iZ (q (3 + p)))) f q (4 * K + 2) := ⟨hF.1, hF.2.1, hF.2.2⟩
            refine AW.run X M_stitched_d 81 8 rfl ?_
            refine AW.run X M_stitched_d 89 1 rfl ?_
            rw [show Int32.ofInt 2 + Int32.ofInt 2 * nI K + Int32.ofInt 2 * nI p = nI (2 + 2 * K + 2 * p) from by rw [show Int32.ofInt 2 * nI K = nI (2 * K) from pk_mul 2 K, show Int32.ofInt 2 * nI p = nI (2 * p) from pk_mul 2 p, show Int32.ofInt 2 + nI (2 * K) = nI (2 + 2 * K) from nI_add 2 (2 * K), nI_add]]
            refine AW.run X M_stitched_d 90 7 rfl ?_
            refine AW.callV (As := [.int (nI f), .int (nI (2 + 2 * K + 2 * p))]) X (M_ofq_m S (y_i M 12 (iZ (q (3 + p)))) tl f (2 + 2 * K + 2 * p) _ q hF1 (by omega)) cb_M_320 rfl rfl M_of_im M_of_se rfl ⟨Nat.le_of_ble_eq_true rfl, Nat.le_of_ble_eq_true rfl⟩ (Nat.le_of_ble_eq_true rfl) ⟨Nat.le_of_ble_eq_true rfl, Nat.le_of_ble_eq_true rfl⟩ (M_stitched_d.d 97 rfl) (fun v h' q => ?_)
            obtain ⟨rfl, rfl⟩ := q
            refine AW.run X M_stitched_d 98 5 rfl ?_
            rw [nI_o1]
            refine AW.callV (As := [.int (nI f), .int (nI (2 + 2 * K + 2 * p + 1))]) X (M_ofq_m S (y_i M 12 (iZ (q (3 + p)))) tl f (2 + 2 * K + 2 * p + 1) _ q hF1 (by omega)) cb_M_320 rfl rfl M_of_im M_of_se rfl ⟨Nat.le_of_ble_eq_true rfl, Nat.le_of_ble_eq_true rfl⟩ (Nat.le_of_ble_eq_true rfl) ⟨Nat.le_of_ble_eq_true rfl, Nat.le_of_ble_eq_true rfl⟩ (M_stitched_d.d 103 rfl) (fun v h' q => ?_)
            obtain ⟨rfl, rfl⟩ := q
            refine AW.callS (As := [.long (lZ (zcut x (q 0) (q 1))), .long (lZ (zlo q K p)), .long (lZ (zhi q K p)), .long (lZ (q (2 + 2 * K + 2 * p))), .long (lZ (q (2 + 2 * K + 2 * p + 1)))]) X (M_laid_m (zcut x (q 0) (q 1)) (zlo q K p) (zhi q K p) (q (2 + 2 * K + 2 * p)) (q (2 + 2 * K + 2 * p + 1)) ⟨hb.2.1, hb.2.2⟩ (zN_L hlN) (zN_L hhN) (by have := hlN.1; have := hhN.2; omega) (hF.2.2 _ (by omega)).2 (hF.2.2 _ (by omega)).2) cb_M_324 M_laid_st rfl ⟨Nat.le_of_ble_eq_true rfl, Nat.le_of_ble_eq_true rfl⟩ (Nat.le_of_ble_eq_true rfl) ⟨Nat.le_of_ble_eq_true rfl, Nat.le_of_ble_eq_true rfl⟩ (M_stitched_d.d 104 rfl) (fun v h' q => ?_)
            obtain ⟨rfl, rfl⟩ := q
            exact AW.lret X (M_stitched_d.d 105 rfl) (Nat.le_of_ble_eq_true rfl) (Nat.le_of_ble_eq_true rfl) ⟨by rw [show zSt q K x = zlaid (zcut x (q 0) (q 1)) (zlo q K p) (zhi q K p) (q (2 + 2 * K + 2 * p)) (q (2 + 2 * K + 2 * p + 1)) from by unfold zSt; rw [hp]], by rw [hp]⟩
          refine AW.icmp_ne X (M_stitched_d.d 57 rfl) (fun q57 => ?_) (fun q57 => ?_)
          · refine AW.run X M_stitched_d 63 7 rfl ?_
            rw [show Int32.ofInt 3 + nI K + nI p = nI (3 + K + p) from by rw [show Int32.ofInt 3 + nI K = nI (3 + K) from nI_add 3 K, nI_add]]
            refine AW.callV (As := [.int (nI f), .int (nI (3 + K + p))]) X (M_ofq_m S M tl f (3 + K + p) _ q hF (by omega)) cb_M_320 rfl rfl M_of_im M_of_se rfl ⟨Nat.le_of_ble_eq_true rfl, Nat.le_of_ble_eq_true rfl⟩ (Nat.le_of_ble_eq_true rfl) ⟨Nat.le_of_ble_eq_true rfl, Nat.le_of_ble_eq_true rfl⟩ (M_stitched_d.d 70 rfl) (fun v h' q => ?_)
            obtain ⟨rfl, rfl⟩ := q
            exact J121 _ (by unfold zhi; rw [if_neg (fun z => q57 (by rw [hk1, z]))])
          · refine AW.run X M_stitched_d 58 3 rfl ?_
            refine AW.callV (As := [.int (nI f), .int (nI (1))]) X (M_ofq_m S M tl f (1) _ q hF (by omega)) cb_M_320 rfl rfl M_of_im M_of_se rfl ⟨Nat.le_of_ble_eq_true rfl, Nat.le_of_ble_eq_true rfl⟩ (Nat.le_of_ble_eq_true rfl) ⟨Nat.le_of_ble_eq_true rfl, Nat.le_of_ble_eq_true rfl⟩ (M_stitched_d.d 61 rfl) (fun v h' q => ?_)
            obtain ⟨rfl, rfl⟩ := q
            refine AW.goto X (M_stitched_d.d 62 rfl) ?_
            exact J121 _ (by unfold zhi; rw [if_pos ((nI_eq (by omega) (by omega)).mp (by rw [← hk1]; exact q57))])
        refine AW.if_ne X (M_stitched_d.d 38 rfl) (fun q38 => ?_) (fun q38 => ?_)
        · refine AW.run X M_stitched_d 44 7 rfl ?_
          rw [show Int32.ofInt 2 + nI K + nI p = nI (2 + K + p) from by rw [show Int32.ofInt 2 + nI K = nI (2 + K) from nI_add 2 K, nI_add]]
          refine AW.callV (As := [.int (nI f), .int (nI (2 + K + p))]) X (M_ofq_m S M tl f (2 + K + p) _ q hF (by omega)) cb_M_320 rfl rfl M_of_im M_of_se rfl ⟨Nat.le_of_ble_eq_true rfl, Nat.le_of_ble_eq_true rfl⟩ (Nat.le_of_ble_eq_true rfl) ⟨Nat.le_of_ble_eq_true rfl, Nat.le_of_ble_eq_true rfl⟩ (M_stitched_d.d 51 rfl) (fun v h' q => ?_)
          obtain ⟨rfl, rfl⟩ := q
          exact J89 _ (by unfold zlo; rw [if_neg (fun z => q38 (by rw [z]; rfl))])
        · refine AW.run X M_stitched_d 39 3 rfl ?_
          refine AW.callV (As := [.int (nI f), .int (nI (0))]) X (M_ofq_m S M tl f (0) _ q hF (by omega)) cb_M_320 rfl rfl M_of_im M_of_se rfl ⟨Nat.le_of_ble_eq_true rfl, Nat.le_of_ble_eq_true rfl⟩ (Nat.le_of_ble_eq_true rfl) ⟨Nat.le_of_ble_eq_true rfl, Nat.le_of_ble_eq_true rfl⟩ (M_stitched_d.d 42 rfl) (fun v h' q => ?_)
          obtain ⟨rfl, rfl⟩ := q
          refine AW.goto X (M_stitched_d.d 43 rfl) ?_
          exact J89 _ (by unfold zlo; rw [if_pos ((nI_0i (by omega)).mp q38)])
      refine AW.icmp_ge X (M_stitched_d.d 23 rfl) (fun q23 => ?_) (fun q23 => ?_)
      · exact J63 0 (by rw [← a2, zpt_0 (by have := cge (a := p) (b := K - 1) q23 rfl hk1; omega)])
      · have hpk : p < K - 1 := clt (a := p) (b := K - 1) q23 rfl hk1
        refine AW.run X M_stitched_d 24 7 rfl ?_
        rw [show Int32.ofInt 3 + nI K + nI p = nI (3 + K + p) from by rw [show Int32.ofInt 3 + nI K = nI (3 + K) from nI_add 3 K, nI_add]]
        refine AW.callV (As := [.int (nI f), .int (nI (3 + K + p))]) X (M_ofq_m S M tl f (3 + K + p) _ q hF (by omega)) cb_M_320 rfl rfl M_of_im M_of_se rfl ⟨Nat.le_of_ble_eq_true rfl, Nat.le_of_ble_eq_true rfl⟩ (Nat.le_of_ble_eq_true rfl) ⟨Nat.le_of_ble_eq_true rfl, Nat.le_of_ble_eq_true rfl⟩ (M_stitched_d.d 31 rfl) (fun v h' q => ?_)
        obtain ⟨rfl, rfl⟩ := q
        refine AW.run X M_stitched_d 32 2 rfl ?_
        refine AW.if_gt X (M_stitched_d.d 34 rfl) (fun q34 => ?_) (fun q34 => ?_)
        · exact J63 0 (by rw [← a2, zpt_0 (fun z => by have := (lc_gt (a := q (3 + K + p)) (b := zcut x (q 0) (q 1)) (zN_L (hF.2.2 (3 + K + p) (by omega)).2) (zN_L hX)).mp q34; omega)])
        · refine AW.run X M_stitched_d 35 1 rfl ?_
          refine AW.goto X (M_stitched_d.d 36 rfl) ?_
          rw [nI_o1]
          exact ih (p + 1) (by omega) (by rw [← a2]; exact (zpt_1 ⟨hpk, Int.not_lt.mp (mt (lc_gt (a := q (3 + K + p)) (b := zcut x (q 0) (q 1)) (zN_L (hF.2.2 (3 + K + p) (by omega)).2) (zN_L hX)).mpr q34)⟩).symm) (by omega)
  exact L30 (K + 1) 0 (by omega) rfl (by omega)

set_option maxHeartbeats 4000000 in
set_option maxRecDepth 100000 in
theorem Z_evaluateS_m {l : Launch} {G : ax_G} (S : x_S) (tl : List va_E) (dd : Nat) (hdd : 6 ≤ dd) (a b bp K o pa : Nat) (q : Nat → Int) (x : Int) (F : Nat → Option Nat) (Pq : List va_E → Prop) (fs : List Value) (hO : tl[a]? = some (.inr (7, [.ref (153 + bp), .int (nI 1), .int (nI o), .ref (153 + b)]))) (hBp : tl[bp]? = some (.inl (4, K, .inr (.inr (.inr (.inr F)))))) (hD : DQ tl b q (4 * K + 2)) (hK : 1 ≤ K ∧ K ≤ 8) (hq : q 0 ≤ q 1) (hx : zN x) (hg : S.2.1 4 0 = iZ x) (hF : F (zPt q K x) = some (153 + pa)) (hC : tl[pa]? = some (.inr (5, fs))) (hE : AM l VV G S_evaluate_y S_evaluate_c 9 none dd 0 0 [.ref (153 + pa), .ref 139, .ref 138, .ref 140] (x_hC (x_a S 4 0 (iZ (zSt q K x))) tl) (fun v h' => v = none ∧ Pq h')) :
    AM l VV G Z_evaluate_y Z_evaluate_c 12 none (dd + 1) 0 0 [.ref (153 + a), .ref 139, .ref 138, .ref 140] (x_hC S tl) (fun v h' => v = none ∧ Pq h') := by
  refine AM.of (pl := pl_Z) (by decide) v_good fl_Z_ok kl_Z_ok nofun (Nat.le_of_ble_eq_true rfl) ?_
  intro p0v e0v s0v m0v args below meth c0v X
  obtain ⟨hL, T, hT, hQ⟩ := hD
  have hX : zN (zcut x (q 0) (q 1)) := zcut_N hx (hQ 0 (by omega)).2 (hQ 1 (by omega)).2
  refine AW.run X Z_evaluate_d 0 3 rfl ?_
  refine AW.cl4 (j := 0) X rfl (by decide) (Z_evaluate_d.d 3 rfl) ?_
  rw [hg]
  refine AW.run X Z_evaluate_d 4 1 rfl ?_
  refine AW.callU (rc := ("NumberFunctions$Stitched", Cl_Z, 4)) (As := [.int (iZ x), .int (nI 0)]) X (F_withinPair_m (153 + a) (153 + b) 7 3 0 (4 * K + 2) _ T x (q 0) (q 1) ((x_tl _ tl a).trans hO) rfl rfl ((x_tl _ tl b).trans hT) hL (by omega) (hQ 0 (by omega)).1 (hQ 1 (by omega)).1 hx (hQ 0 (by omega)).2 (hQ 1 (by omega)).2 hq) cu_Z_15_Z ((x_tl _ tl a).trans hO) rfl rfl ⟨by show _ ≤ dd + 1; omega, by show _ ≤ 40 * (dd + 1); omega⟩ (Nat.le_of_ble_eq_true rfl) ⟨Nat.le_of_ble_eq_true rfl, Nat.le_of_ble_eq_true rfl⟩ (Z_evaluate_d.d 5 rfl) (fun v h' q => ?_)
  obtain ⟨rfl, rfl⟩ := q
  refine AW.run X Z_evaluate_d 6 3 rfl ?_
  refine AW.get X ((x_tl _ tl a).trans hO) rfl rfl (Z_evaluate_d.d 9 rfl) ?_
  refine AW.alen X ((x_tl _ tl bp).trans hBp) rfl rfl (Z_evaluate_d.d 10 rfl) ?_
  refine AW.run X Z_evaluate_d 11 1 rfl ?_
  rw [show Int32.ofInt 3 + nI K = nI (3 + K) from nI_add 3 K]
  refine AW.run X Z_evaluate_d 12 2 rfl ?_
  refine AW.get X ((x_tl _ tl a).trans hO) rfl rfl (Z_evaluate_d.d 14 rfl) ?_
  refine AW.alen X ((x_tl _ tl bp).trans hBp) rfl rfl (Z_evaluate_d.d 15 rfl) ?_
  refine AW.run X Z_evaluate_d 16 1 rfl ?_
  refine AW.run X Z_evaluate_d 17 1 rfl ?_
  rw [show nI K - Int32.ofInt 1 = nI (K - 1) from pk_sub (b := 1) hK.1]
  refine AW.run X Z_evaluate_d 18 3 rfl ?_
  have L31 : ∀ (t2 p : Nat), p ≤ K - 1 → zpt q K (zcut x (q 0) (q 1)) p = zPt q K x → K - 1 - p < t2 → AW p0v l e0v (ax_R (dd + 1) 0 0) s0v m0v args below meth c0v VV G 12 (x_hC S tl) 0 0 (MQ below (ax_Q VV G (fun v h' => v = none ∧ Pq h')) args s0v 0 0 (fun q => G.bs ≤ q)) 31 [(7, .int (nI p)), (6, .int (nI (K - 1))), (5, .int (nI (3 + K))), (4, .int (iZ (zcut x (q 0) (q 1)))), (0, .ref (153 + a)), (1, .ref 139), (2, .ref 138), (3, .ref 140)] [] := by
    intro t2
    induction t2 with
    | zero => intro p a1 a2 a3; exact absurd a3 (by omega)
    | succ t2 ih =>
      intro p a1 a2 a3
      refine AW.run X Z_evaluate_d 21 2 rfl ?_
      have J59 : ∀ (_u : Nat), zPt q K x = p → AW p0v l e0v (ax_R (dd + 1) 0 0) s0v m0v args below meth c0v VV G 12 (x_hC S tl) 0 0 (MQ below (ax_Q VV G (fun v h' => v = none ∧ Pq h')) args s0v 0 0 (fun q => G.bs ≤ q)) 59 [(7, .int (nI p)), (6, .int (nI (K - 1))), (5, .int (nI (3 + K))), (4, .int (iZ (zcut x (q 0) (q 1)))), (0, .ref (153 + a)), (1, .ref 139), (2, .ref 138), (3, .ref 140)] [] := by
        intro _u hp
        have hb := zPt_b (q := q) (K := K) (x := x) hK.1 hq
        rw [hp] at hb
        have hlN : zN (zlo q K p) := by unfold zlo; split; exact (hQ 0 (by omega)).2; exact (hQ _ (by omega)).2
        have hhN : zN (zhi q K p) := by unfold zhi; split; exact (hQ 1 (by omega)).2; exact (hQ _ (by omega)).2
        refine AW.run X Z_evaluate_d 34 1 rfl ?_
        have J85 : ∀ (z : Int32), z = iZ (zlo q K p) → AW p0v l e0v (ax_R (dd + 1) 0 0) s0v m0v args below meth c0v VV G 12 (x_hC S tl) 0 0 (MQ below (ax_Q VV G (fun v h' => v = none ∧ Pq h')) args s0v 0 0 (fun q => G.bs ≤ q)) 85 [(7, .int (nI p)), (6, .int (nI (K - 1))), (5, .int (nI (3 + K))), (4, .int (iZ (zcut x (q 0) (q 1)))), (0, .ref (153 + a)), (1, .ref 139), (2, .ref 138), (3, .ref 140)] [.int z] := by
          intro z hz; subst hz
          refine AW.run X Z_evaluate_d 49 3 rfl ?_
          have J113 : ∀ (z : Int32), z = iZ (zhi q K p) → AW p0v l e0v (ax_R (dd + 1) 0 0) s0v m0v args below meth c0v VV G 12 (x_hC S tl) 0 0 (MQ below (ax_Q VV G (fun v h' => v = none ∧ Pq h')) args s0v 0 0 (fun q => G.bs ≤ q)) 113 [(8, .int (iZ (zlo q K p))), (7, .int (nI p)), (6, .int (nI (K - 1))), (5, .int (nI (3 + K))), (4, .int (iZ (zcut x (q 0) (q 1)))), (0, .ref (153 + a)), (1, .ref 139), (2, .ref 138), (3, .ref 140)] [.int z] := by
            intro z hz; subst hz
            refine AW.run X Z_evaluate_d 64 7 rfl ?_
            refine AW.run X Z_evaluate_d 71 1 rfl ?_
            rw [show nI (3 + K) + nI (K - 1) + Int32.ofInt 2 * nI p = nI (2 + 2 * K + 2 * p) from by rw [show Int32.ofInt 2 * nI p = nI (2 * p) from pk_mul 2 p, nI_add, nI_add]; congr 1; omega]
            refine AW.run X Z_evaluate_d 72 10 rfl ?_
            refine AW.get X ((x_tl _ tl a).trans hO) rfl rfl (Z_evaluate_d.d 82 rfl) ?_
            refine AW.run X Z_evaluate_d 83 1 rfl ?_
            refine AW.iald (j := 2 + 2 * K + 2 * p) X ((x_tl _ tl b).trans hT) rfl rfl (by omega) (by omega) (Z_evaluate_d.d 84 rfl) ?_
            rw [(hQ (2 + 2 * K + 2 * p) (by omega)).1]
            refine AW.run X Z_evaluate_d 85 2 rfl ?_
            refine AW.get X ((x_tl _ tl a).trans hO) rfl rfl (Z_evaluate_d.d 87 rfl) ?_
            refine AW.run X Z_evaluate_d 88 3 rfl ?_
            refine AW.iald (j := 2 + 2 * K + 2 * p + 1) X ((x_tl _ tl b).trans hT) rfl (nI_o1 _) (by omega) (by omega) (Z_evaluate_d.d 91 rfl) ?_
            rw [(hQ (2 + 2 * K + 2 * p + 1) (by omega)).1]
            refine AW.run X Z_evaluate_d 92 1 rfl ?_
            rw [iZ_l (zN_I hX), iZ_l (zN_I hlN), iZ_l (zN_I hhN), iZ_l (zN_I (hQ (2 + 2 * K + 2 * p) (by omega)).2), iZ_l (zN_I (hQ (2 + 2 * K + 2 * p + 1) (by omega)).2)]
            refine AW.callS (As := [.long (lZ (zcut x (q 0) (q 1))), .long (lZ (zlo q K p)), .long (lZ (zhi q K p)), .long (lZ (q (2 + 2 * K + 2 * p))), .long (lZ (q (2 + 2 * K + 2 * p + 1)))]) X (B_laid_m (zcut x (q 0) (q 1)) (zlo q K p) (zhi q K p) (q (2 + 2 * K + 2 * p)) (q (2 + 2 * K + 2 * p + 1)) ⟨hb.2.1, hb.2.2⟩ (zN_L hlN) (zN_L hhN) (by have := hlN.1; have := hhN.2; omega) (hQ _ (by omega)).2 (hQ _ (by omega)).2) cb_Z_23 B_laid_st rfl ⟨by show _ ≤ dd + 1; omega, by show _ ≤ 40 * (dd + 1); omega⟩ (Nat.le_of_ble_eq_true rfl) ⟨Nat.le_of_ble_eq_true rfl, Nat.le_of_ble_eq_true rfl⟩ (Z_evaluate_d.d 93 rfl) (fun v h' q => ?_)
            obtain ⟨rfl, rfl⟩ := q
            rw [show zlaid (zcut x (q 0) (q 1)) (zlo q K p) (zhi q K p) (q (2 + 2 * K + 2 * p)) (q (2 + 2 * K + 2 * p + 1)) = zSt q K x from by unfold zSt; rw [hp]]
            refine AW.cs4 (j := 0) X rfl (by decide) (Z_evaluate_d.d 94 rfl) ?_
            refine AW.run X Z_evaluate_d 95 1 rfl ?_
            refine AW.get X ((x_tl _ tl a).trans hO) rfl rfl (Z_evaluate_d.d 96 rfl) ?_
            refine AW.run X Z_evaluate_d 97 1 rfl ?_
            refine AW.aald (j := p) X ((x_tl _ tl bp).trans hBp) rfl rfl (by omega) (by omega) (Z_evaluate_d.d 98 rfl) ?_
            rw [← hp, hF]
            refine AW.run X Z_evaluate_d 99 2 rfl ?_
            refine AW.ifnull X (Z_evaluate_d.d 101 rfl) ?_
            refine AW.run X Z_evaluate_d 102 4 rfl ?_
            refine AW.callU (rc := ("NumberFunctions$Samples", Cl_S, 8)) (As := [.ref 139, .ref 138, .ref 140]) X hE cu_Z_29_S ((x_tl _ tl pa).trans hC) rfl rfl ⟨by show _ ≤ dd + 1; omega, by show _ ≤ 40 * (dd + 1); omega⟩ (Nat.le_of_ble_eq_true rfl) ⟨Nat.le_of_ble_eq_true rfl, Nat.le_of_ble_eq_true rfl⟩ (Z_evaluate_d.d 106 rfl) (fun v h' q => ?_)
            obtain ⟨rfl, q⟩ := q
            exact AW.vret X (Z_evaluate_d.d 107 rfl) (Nat.le_of_ble_eq_true rfl) (Nat.le_of_ble_eq_true rfl) ⟨rfl, q⟩
          refine AW.icmp_ne X (Z_evaluate_d.d 52 rfl) (fun q52 => ?_) (fun q52 => ?_)
          · refine AW.run X Z_evaluate_d 58 1 rfl ?_
            refine AW.get X ((x_tl _ tl a).trans hO) rfl rfl (Z_evaluate_d.d 59 rfl) ?_
            refine AW.run X Z_evaluate_d 60 3 rfl ?_
            refine AW.iald (j := 3 + K + p) X ((x_tl _ tl b).trans hT) rfl (nI_add (3 + K) p) (by omega) (by omega) (Z_evaluate_d.d 63 rfl) ?_
            rw [(hQ (3 + K + p) (by omega)).1]
            exact J113 _ (by unfold zhi; rw [if_neg (fun z => q52 (by rw [z]))])
          · refine AW.run X Z_evaluate_d 53 1 rfl ?_
            refine AW.get X ((x_tl _ tl a).trans hO) rfl rfl (Z_evaluate_d.d 54 rfl) ?_
            refine AW.run X Z_evaluate_d 55 1 rfl ?_
            refine AW.iald (j := 1) X ((x_tl _ tl b).trans hT) rfl rfl (by omega) (by omega) (Z_evaluate_d.d 56 rfl) ?_
            rw [(hQ (1) (by omega)).1]
            refine AW.goto X (Z_evaluate_d.d 57 rfl) ?_
            exact J113 _ (by unfold zhi; rw [if_pos ((nI_eq (by omega) (by omega)).mp q52)])
        refine AW.if_ne X (Z_evaluate_d.d 35 rfl) (fun q35 => ?_) (fun q35 => ?_)
        · refine AW.run X Z_evaluate_d 41 1 rfl ?_
          refine AW.get X ((x_tl _ tl a).trans hO) rfl rfl (Z_evaluate_d.d 42 rfl) ?_
          refine AW.run X Z_evaluate_d 43 5 rfl ?_
          refine AW.iald (j := 2 + K + p) X ((x_tl _ tl b).trans hT) rfl (by rw [nI_add]; exact (pk_sub (b := 1) (by omega)).trans (by congr 1; omega)) (by omega) (by omega) (Z_evaluate_d.d 48 rfl) ?_
          rw [(hQ (2 + K + p) (by omega)).1]
          exact J85 _ (by unfold zlo; rw [if_neg (fun z => q35 (by rw [z]; rfl))])
        · refine AW.run X Z_evaluate_d 36 1 rfl ?_
          refine AW.get X ((x_tl _ tl a).trans hO) rfl rfl (Z_evaluate_d.d 37 rfl) ?_
          refine AW.run X Z_evaluate_d 38 1 rfl ?_
          refine AW.iald (j := 0) X ((x_tl _ tl b).trans hT) rfl rfl (by omega) (by omega) (Z_evaluate_d.d 39 rfl) ?_
          rw [(hQ (0) (by omega)).1]
          refine AW.goto X (Z_evaluate_d.d 40 rfl) ?_
          exact J85 _ (by unfold zlo; rw [if_pos ((nI_0i (by omega)).mp q35)])
      refine AW.icmp_ge X (Z_evaluate_d.d 23 rfl) (fun q23 => ?_) (fun q23 => ?_)
      · exact J59 0 (by rw [← a2, zpt_0 (by have := cge q23; omega)])
      · have hpk : p < K - 1 := clt q23
        refine AW.run X Z_evaluate_d 24 1 rfl ?_
        refine AW.get X ((x_tl _ tl a).trans hO) rfl rfl (Z_evaluate_d.d 25 rfl) ?_
        refine AW.run X Z_evaluate_d 26 3 rfl ?_
        refine AW.iald (j := 3 + K + p) X ((x_tl _ tl b).trans hT) rfl (nI_add (3 + K) p) (by omega) (by omega) (Z_evaluate_d.d 29 rfl) ?_
        rw [(hQ (3 + K + p) (by omega)).1]
        refine AW.run X Z_evaluate_d 30 1 rfl ?_
        refine AW.icmp_gt X (Z_evaluate_d.d 31 rfl) (fun q31 => ?_) (fun q31 => ?_)
        · exact J59 0 (by rw [← a2, zpt_0 (fun z => by have := (iZ_lt (a := zcut x (q 0) (q 1)) (b := q (3 + K + p)) (zN_I hX) (zN_I (hQ _ (by omega)).2)).mp q31; omega)])
        · refine AW.run X Z_evaluate_d 32 1 rfl ?_
          refine AW.goto X (Z_evaluate_d.d 33 rfl) ?_
          rw [nI_o1]
          exact ih (p + 1) (by omega) (by rw [← a2]; exact (zpt_1 ⟨hpk, Int.not_lt.mp (mt (iZ_lt (a := zcut x (q 0) (q 1)) (b := q (3 + K + p)) (zN_I hX) (zN_I (hQ _ (by omega)).2)).mpr q31)⟩).symm) (by omega)
  exact L31 (K + 1) 0 (by omega) rfl (by omega)

set_option maxHeartbeats 4000000 in
set_option maxRecDepth 100000 in
theorem Z_evaluateP_m {l : Launch} {G : ax_G} (S : x_S) (tl : List va_E) (dd : Nat) (hdd : 6 ≤ dd) (a b bp K o pa : Nat) (q : Nat → Int) (x : Int) (F : Nat → Option Nat) (Pq : List va_E → Prop) (fs : List Value) (hO : tl[a]? = some (.inr (7, [.ref (153 + bp), .int (nI 1), .int (nI o), .ref (153 + b)]))) (hBp : tl[bp]? = some (.inl (4, K, .inr (.inr (.inr (.inr F)))))) (hD : DQ tl b q (4 * K + 2)) (hK : 1 ≤ K ∧ K ≤ 8) (hq : q 0 ≤ q 1) (hx : zN x) (hg : S.2.1 4 0 = iZ x) (hF : F (zPt q K x) = some (153 + pa)) (hC : tl[pa]? = some (.inr (6, fs))) (hE : AM l VV G P_evaluate_y P_evaluate_c 11 none dd 0 0 [.ref (153 + pa), .ref 139, .ref 138, .ref 140] (x_hC (x_a S 4 0 (iZ (zSt q K x))) tl) (fun v h' => v = none ∧ Pq h')) :
    AM l VV G Z_evaluate_y Z_evaluate_c 12 none (dd + 1) 0 0 [.ref (153 + a), .ref 139, .ref 138, .ref 140] (x_hC S tl) (fun v h' => v = none ∧ Pq h') := by
  refine AM.of (pl := pl_Z) (by decide) v_good fl_Z_ok kl_Z_ok nofun (Nat.le_of_ble_eq_true rfl) ?_
  intro p0v e0v s0v m0v args below meth c0v X
  obtain ⟨hL, T, hT, hQ⟩ := hD
  have hX : zN (zcut x (q 0) (q 1)) := zcut_N hx (hQ 0 (by omega)).2 (hQ 1 (by omega)).2
  refine AW.run X Z_evaluate_d 0 3 rfl ?_
  refine AW.cl4 (j := 0) X rfl (by decide) (Z_evaluate_d.d 3 rfl) ?_
  rw [hg]
  refine AW.run X Z_evaluate_d 4 1 rfl ?_
  refine AW.callU (rc := ("NumberFunctions$Stitched", Cl_Z, 4)) (As := [.int (iZ x), .int (nI 0)]) X (F_withinPair_m (153 + a) (153 + b) 7 3 0 (4 * K + 2) _ T x (q 0) (q 1) ((x_tl _ tl a).trans hO) rfl rfl ((x_tl _ tl b).trans hT) hL (by omega) (hQ 0 (by omega)).1 (hQ 1 (by omega)).1 hx (hQ 0 (by omega)).2 (hQ 1 (by omega)).2 hq) cu_Z_15_Z ((x_tl _ tl a).trans hO) rfl rfl ⟨by show _ ≤ dd + 1; omega, by show _ ≤ 40 * (dd + 1); omega⟩ (Nat.le_of_ble_eq_true rfl) ⟨Nat.le_of_ble_eq_true rfl, Nat.le_of_ble_eq_true rfl⟩ (Z_evaluate_d.d 5 rfl) (fun v h' q => ?_)
  obtain ⟨rfl, rfl⟩ := q
  refine AW.run X Z_evaluate_d 6 3 rfl ?_
  refine AW.get X ((x_tl _ tl a).trans hO) rfl rfl (Z_evaluate_d.d 9 rfl) ?_
  refine AW.alen X ((x_tl _ tl bp).trans hBp) rfl rfl (Z_evaluate_d.d 10 rfl) ?_
  refine AW.run X Z_evaluate_d 11 1 rfl ?_
  rw [show Int32.ofInt 3 + nI K = nI (3 + K) from nI_add 3 K]
  refine AW.run X Z_evaluate_d 12 2 rfl ?_
  refine AW.get X ((x_tl _ tl a).trans hO) rfl rfl (Z_evaluate_d.d 14 rfl) ?_
  refine AW.alen X ((x_tl _ tl bp).trans hBp) rfl rfl (Z_evaluate_d.d 15 rfl) ?_
  refine AW.run X Z_evaluate_d 16 1 rfl ?_
  refine AW.run X Z_evaluate_d 17 1 rfl ?_
  rw [show nI K - Int32.ofInt 1 = nI (K - 1) from pk_sub (b := 1) hK.1]
  refine AW.run X Z_evaluate_d 18 3 rfl ?_
  have L31 : ∀ (t2 p : Nat), p ≤ K - 1 → zpt q K (zcut x (q 0) (q 1)) p = zPt q K x → K - 1 - p < t2 → AW p0v l e0v (ax_R (dd + 1) 0 0) s0v m0v args below meth c0v VV G 12 (x_hC S tl) 0 0 (MQ below (ax_Q VV G (fun v h' => v = none ∧ Pq h')) args s0v 0 0 (fun q => G.bs ≤ q)) 31 [(7, .int (nI p)), (6, .int (nI (K - 1))), (5, .int (nI (3 + K))), (4, .int (iZ (zcut x (q 0) (q 1)))), (0, .ref (153 + a)), (1, .ref 139), (2, .ref 138), (3, .ref 140)] [] := by
    intro t2
    induction t2 with
    | zero => intro p a1 a2 a3; exact absurd a3 (by omega)
    | succ t2 ih =>
      intro p a1 a2 a3
      refine AW.run X Z_evaluate_d 21 2 rfl ?_
      have J59 : ∀ (_u : Nat), zPt q K x = p → AW p0v l e0v (ax_R (dd + 1) 0 0) s0v m0v args below meth c0v VV G 12 (x_hC S tl) 0 0 (MQ below (ax_Q VV G (fun v h' => v = none ∧ Pq h')) args s0v 0 0 (fun q => G.bs ≤ q)) 59 [(7, .int (nI p)), (6, .int (nI (K - 1))), (5, .int (nI (3 + K))), (4, .int (iZ (zcut x (q 0) (q 1)))), (0, .ref (153 + a)), (1, .ref 139), (2, .ref 138), (3, .ref 140)] [] := by
        intro _u hp
        have hb := zPt_b (q := q) (K := K) (x := x) hK.1 hq
        rw [hp] at hb
        have hlN : zN (zlo q K p) := by unfold zlo; split; exact (hQ 0 (by omega)).2; exact (hQ _ (by omega)).2
        have hhN : zN (zhi q K p) := by unfold zhi; split; exact (hQ 1 (by omega)).2; exact (hQ _ (by omega)).2
        refine AW.run X Z_evaluate_d 34 1 rfl ?_
        have J85 : ∀ (z : Int32), z = iZ (zlo q K p) → AW p0v l e0v (ax_R (dd + 1) 0 0) s0v m0v args below meth c0v VV G 12 (x_hC S tl) 0 0 (MQ below (ax_Q VV G (fun v h' => v = none ∧ Pq h')) args s0v 0 0 (fun q => G.bs ≤ q)) 85 [(7, .int (nI p)), (6, .int (nI (K - 1))), (5, .int (nI (3 + K))), (4, .int (iZ (zcut x (q 0) (q 1)))), (0, .ref (153 + a)), (1, .ref 139), (2, .ref 138), (3, .ref 140)] [.int z] := by
          intro z hz; subst hz
          refine AW.run X Z_evaluate_d 49 3 rfl ?_
          have J113 : ∀ (z : Int32), z = iZ (zhi q K p) → AW p0v l e0v (ax_R (dd + 1) 0 0) s0v m0v args below meth c0v VV G 12 (x_hC S tl) 0 0 (MQ below (ax_Q VV G (fun v h' => v = none ∧ Pq h')) args s0v 0 0 (fun q => G.bs ≤ q)) 113 [(8, .int (iZ (zlo q K p))), (7, .int (nI p)), (6, .int (nI (K - 1))), (5, .int (nI (3 + K))), (4, .int (iZ (zcut x (q 0) (q 1)))), (0, .ref (153 + a)), (1, .ref 139), (2, .ref 138), (3, .ref 140)] [.int z] := by
            intro z hz; subst hz
            refine AW.run X Z_evaluate_d 64 7 rfl ?_
            refine AW.run X Z_evaluate_d 71 1 rfl ?_
            rw [show nI (3 + K) + nI (K - 1) + Int32.ofInt 2 * nI p = nI (2 + 2 * K + 2 * p) from by rw [show Int32.ofInt 2 * nI p = nI (2 * p) from pk_mul 2 p, nI_add, nI_add]; congr 1; omega]
            refine AW.run X Z_evaluate_d 72 10 rfl ?_
            refine AW.get X ((x_tl _ tl a).trans hO) rfl rfl (Z_evaluate_d.d 82 rfl) ?_
            refine AW.run X Z_evaluate_d 83 1 rfl ?_
            refine AW.iald (j := 2 + 2 * K + 2 * p) X ((x_tl _ tl b).trans hT) rfl rfl (by omega) (by omega) (Z_evaluate_d.d 84 rfl) ?_
            rw [(hQ (2 + 2 * K + 2 * p) (by omega)).1]
            refine AW.run X Z_evaluate_d 85 2 rfl ?_
            refine AW.get X ((x_tl _ tl a).trans hO) rfl rfl (Z_evaluate_d.d 87 rfl) ?_
            refine AW.run X Z_evaluate_d 88 3 rfl ?_
            refine AW.iald (j := 2 + 2 * K + 2 * p + 1) X ((x_tl _ tl b).trans hT) rfl (nI_o1 _) (by omega) (by omega) (Z_evaluate_d.d 91 rfl) ?_
            rw [(hQ (2 + 2 * K + 2 * p + 1) (by omega)).1]
            refine AW.run X Z_evaluate_d 92 1 rfl ?_
            rw [iZ_l (zN_I hX), iZ_l (zN_I hlN), iZ_l (zN_I hhN), iZ_l (zN_I (hQ (2 + 2 * K + 2 * p) (by omega)).2), iZ_l (zN_I (hQ (2 + 2 * K + 2 * p + 1) (by omega)).2)]
            refine AW.callS (As := [.long (lZ (zcut x (q 0) (q 1))), .long (lZ (zlo q K p)), .long (lZ (zhi q K p)), .long (lZ (q (2 + 2 * K + 2 * p))), .long (lZ (q (2 + 2 * K + 2 * p + 1)))]) X (B_laid_m (zcut x (q 0) (q 1)) (zlo q K p) (zhi q K p) (q (2 + 2 * K + 2 * p)) (q (2 + 2 * K + 2 * p + 1)) ⟨hb.2.1, hb.2.2⟩ (zN_L hlN) (zN_L hhN) (by have := hlN.1; have := hhN.2; omega) (hQ _ (by omega)).2 (hQ _ (by omega)).2) cb_Z_23 B_laid_st rfl ⟨by show _ ≤ dd + 1; omega, by show _ ≤ 40 * (dd + 1); omega⟩ (Nat.le_of_ble_eq_true rfl) ⟨Nat.le_of_ble_eq_true rfl, Nat.le_of_ble_eq_true rfl⟩ (Z_evaluate_d.d 93 rfl) (fun v h' q => ?_)
            obtain ⟨rfl, rfl⟩ := q
            rw [show zlaid (zcut x (q 0) (q 1)) (zlo q K p) (zhi q K p) (q (2 + 2 * K + 2 * p)) (q (2 + 2 * K + 2 * p + 1)) = zSt q K x from by unfold zSt; rw [hp]]
            refine AW.cs4 (j := 0) X rfl (by decide) (Z_evaluate_d.d 94 rfl) ?_
            refine AW.run X Z_evaluate_d 95 1 rfl ?_
            refine AW.get X ((x_tl _ tl a).trans hO) rfl rfl (Z_evaluate_d.d 96 rfl) ?_
            refine AW.run X Z_evaluate_d 97 1 rfl ?_
            refine AW.aald (j := p) X ((x_tl _ tl bp).trans hBp) rfl rfl (by omega) (by omega) (Z_evaluate_d.d 98 rfl) ?_
            rw [← hp, hF]
            refine AW.run X Z_evaluate_d 99 2 rfl ?_
            refine AW.ifnull X (Z_evaluate_d.d 101 rfl) ?_
            refine AW.run X Z_evaluate_d 102 4 rfl ?_
            refine AW.callU (rc := ("NumberFunctions$Powers", Cl_P, 3)) (As := [.ref 139, .ref 138, .ref 140]) X hE cu_Z_29_P ((x_tl _ tl pa).trans hC) rfl rfl ⟨by show _ ≤ dd + 1; omega, by show _ ≤ 40 * (dd + 1); omega⟩ (Nat.le_of_ble_eq_true rfl) ⟨Nat.le_of_ble_eq_true rfl, Nat.le_of_ble_eq_true rfl⟩ (Z_evaluate_d.d 106 rfl) (fun v h' q => ?_)
            obtain ⟨rfl, q⟩ := q
            exact AW.vret X (Z_evaluate_d.d 107 rfl) (Nat.le_of_ble_eq_true rfl) (Nat.le_of_ble_eq_true rfl) ⟨rfl, q⟩
          refine AW.icmp_ne X (Z_evaluate_d.d 52 rfl) (fun q52 => ?_) (fun q52 => ?_)
          · refine AW.run X Z_evaluate_d 58 1 rfl ?_
            refine AW.get X ((x_tl _ tl a).trans hO) rfl rfl (Z_evaluate_d.d 59 rfl) ?_
            refine AW.run X Z_evaluate_d 60 3 rfl ?_
            refine AW.iald (j := 3 + K + p) X ((x_tl _ tl b).trans hT) rfl (nI_add (3 + K) p) (by omega) (by omega) (Z_evaluate_d.d 63 rfl) ?_
            rw [(hQ (3 + K + p) (by omega)).1]
            exact J113 _ (by unfold zhi; rw [if_neg (fun z => q52 (by rw [z]))])
          · refine AW.run X Z_evaluate_d 53 1 rfl ?_
            refine AW.get X ((x_tl _ tl a).trans hO) rfl rfl (Z_evaluate_d.d 54 rfl) ?_
            refine AW.run X Z_evaluate_d 55 1 rfl ?_
            refine AW.iald (j := 1) X ((x_tl _ tl b).trans hT) rfl rfl (by omega) (by omega) (Z_evaluate_d.d 56 rfl) ?_
            rw [(hQ (1) (by omega)).1]
            refine AW.goto X (Z_evaluate_d.d 57 rfl) ?_
            exact J113 _ (by unfold zhi; rw [if_pos ((nI_eq (by omega) (by omega)).mp q52)])
        refine AW.if_ne X (Z_evaluate_d.d 35 rfl) (fun q35 => ?_) (fun q35 => ?_)
        · refine AW.run X Z_evaluate_d 41 1 rfl ?_
          refine AW.get X ((x_tl _ tl a).trans hO) rfl rfl (Z_evaluate_d.d 42 rfl) ?_
          refine AW.run X Z_evaluate_d 43 5 rfl ?_
          refine AW.iald (j := 2 + K + p) X ((x_tl _ tl b).trans hT) rfl (by rw [nI_add]; exact (pk_sub (b := 1) (by omega)).trans (by congr 1; omega)) (by omega) (by omega) (Z_evaluate_d.d 48 rfl) ?_
          rw [(hQ (2 + K + p) (by omega)).1]
          exact J85 _ (by unfold zlo; rw [if_neg (fun z => q35 (by rw [z]; rfl))])
        · refine AW.run X Z_evaluate_d 36 1 rfl ?_
          refine AW.get X ((x_tl _ tl a).trans hO) rfl rfl (Z_evaluate_d.d 37 rfl) ?_
          refine AW.run X Z_evaluate_d 38 1 rfl ?_
          refine AW.iald (j := 0) X ((x_tl _ tl b).trans hT) rfl rfl (by omega) (by omega) (Z_evaluate_d.d 39 rfl) ?_
          rw [(hQ (0) (by omega)).1]
          refine AW.goto X (Z_evaluate_d.d 40 rfl) ?_
          exact J85 _ (by unfold zlo; rw [if_pos ((nI_0i (by omega)).mp q35)])
      refine AW.icmp_ge X (Z_evaluate_d.d 23 rfl) (fun q23 => ?_) (fun q23 => ?_)
      · exact J59 0 (by rw [← a2, zpt_0 (by have := cge q23; omega)])
      · have hpk : p < K - 1 := clt q23
        refine AW.run X Z_evaluate_d 24 1 rfl ?_
        refine AW.get X ((x_tl _ tl a).trans hO) rfl rfl (Z_evaluate_d.d 25 rfl) ?_
        refine AW.run X Z_evaluate_d 26 3 rfl ?_
        refine AW.iald (j := 3 + K + p) X ((x_tl _ tl b).trans hT) rfl (nI_add (3 + K) p) (by omega) (by omega) (Z_evaluate_d.d 29 rfl) ?_
        rw [(hQ (3 + K + p) (by omega)).1]
        refine AW.run X Z_evaluate_d 30 1 rfl ?_
        refine AW.icmp_gt X (Z_evaluate_d.d 31 rfl) (fun q31 => ?_) (fun q31 => ?_)
        · exact J59 0 (by rw [← a2, zpt_0 (fun z => by have := (iZ_lt (a := zcut x (q 0) (q 1)) (b := q (3 + K + p)) (zN_I hX) (zN_I (hQ _ (by omega)).2)).mp q31; omega)])
        · refine AW.run X Z_evaluate_d 32 1 rfl ?_
          refine AW.goto X (Z_evaluate_d.d 33 rfl) ?_
          rw [nI_o1]
          exact ih (p + 1) (by omega) (by rw [← a2]; exact (zpt_1 ⟨hpk, Int.not_lt.mp (mt (iZ_lt (a := zcut x (q 0) (q 1)) (b := q (3 + K + p)) (zN_I hX) (zN_I (hQ _ (by omega)).2)).mpr q31)⟩).symm) (by omega)
  exact L31 (K + 1) 0 (by omega) rfl (by omega)

set_option maxHeartbeats 4000000 in
set_option maxRecDepth 100000 in
theorem Z_evaluateZ_m {l : Launch} {G : ax_G} (S : x_S) (tl : List va_E) (dd : Nat) (hdd : 6 ≤ dd) (a b bp K o pa : Nat) (q : Nat → Int) (x : Int) (F : Nat → Option Nat) (Pq : List va_E → Prop) (fs : List Value) (hO : tl[a]? = some (.inr (7, [.ref (153 + bp), .int (nI 1), .int (nI o), .ref (153 + b)]))) (hBp : tl[bp]? = some (.inl (4, K, .inr (.inr (.inr (.inr F)))))) (hD : DQ tl b q (4 * K + 2)) (hK : 1 ≤ K ∧ K ≤ 8) (hq : q 0 ≤ q 1) (hx : zN x) (hg : S.2.1 4 0 = iZ x) (hF : F (zPt q K x) = some (153 + pa)) (hC : tl[pa]? = some (.inr (7, fs))) (hE : AM l VV G Z_evaluate_y Z_evaluate_c 12 none dd 0 0 [.ref (153 + pa), .ref 139, .ref 138, .ref 140] (x_hC (x_a S 4 0 (iZ (zSt q K x))) tl) (fun v h' => v = none ∧ Pq h')) :
    AM l VV G Z_evaluate_y Z_evaluate_c 12 none (dd + 1) 0 0 [.ref (153 + a), .ref 139, .ref 138, .ref 140] (x_hC S tl) (fun v h' => v = none ∧ Pq h') := by
  refine AM.of (pl := pl_Z) (by decide) v_good fl_Z_ok kl_Z_ok nofun (Nat.le_of_ble_eq_true rfl) ?_
  intro p0v e0v s0v m0v args below meth c0v X
  obtain ⟨hL, T, hT, hQ⟩ := hD
  have hX : zN (zcut x (q 0) (q 1)) := zcut_N hx (hQ 0 (by omega)).2 (hQ 1 (by omega)).2
  refine AW.run X Z_evaluate_d 0 3 rfl ?_
  refine AW.cl4 (j := 0) X rfl (by decide) (Z_evaluate_d.d 3 rfl) ?_
  rw [hg]
  refine AW.run X Z_evaluate_d 4 1 rfl ?_
  refine AW.callU (rc := ("NumberFunctions$Stitched", Cl_Z, 4)) (As := [.int (iZ x), .int (nI 0)]) X (F_withinPair_m (153 + a) (153 + b) 7 3 0 (4 * K + 2) _ T x (q 0) (q 1) ((x_tl _ tl a).trans hO) rfl rfl ((x_tl _ tl b).trans hT) hL (by omega) (hQ 0 (by omega)).1 (hQ 1 (by omega)).1 hx (hQ 0 (by omega)).2 (hQ 1 (by omega)).2 hq) cu_Z_15_Z ((x_tl _ tl a).trans hO) rfl rfl ⟨by show _ ≤ dd + 1; omega, by show _ ≤ 40 * (dd + 1); omega⟩ (Nat.le_of_ble_eq_true rfl) ⟨Nat.le_of_ble_eq_true rfl, Nat.le_of_ble_eq_true rfl⟩ (Z_evaluate_d.d 5 rfl) (fun v h' q => ?_)
  obtain ⟨rfl, rfl⟩ := q
  refine AW.run X Z_evaluate_d 6 3 rfl ?_
  refine AW.get X ((x_tl _ tl a).trans hO) rfl rfl (Z_evaluate_d.d 9 rfl) ?_
  refine AW.alen X ((x_tl _ tl bp).trans hBp) rfl rfl (Z_evaluate_d.d 10 rfl) ?_
  refine AW.run X Z_evaluate_d 11 1 rfl ?_
  rw [show Int32.ofInt 3 + nI K = nI (3 + K) from nI_add 3 K]
  refine AW.run X Z_evaluate_d 12 2 rfl ?_
  refine AW.get X ((x_tl _ tl a).trans hO) rfl rfl (Z_evaluate_d.d 14 rfl) ?_
  refine AW.alen X ((x_tl _ tl bp).trans hBp) rfl rfl (Z_evaluate_d.d 15 rfl) ?_
  refine AW.run X Z_evaluate_d 16 1 rfl ?_
  refine AW.run X Z_evaluate_d 17 1 rfl ?_
  rw [show nI K - Int32.ofInt 1 = nI (K - 1) from pk_sub (b := 1) hK.1]
  refine AW.run X Z_evaluate_d 18 3 rfl ?_
  have L31 : ∀ (t2 p : Nat), p ≤ K - 1 → zpt q K (zcut x (q 0) (q 1)) p = zPt q K x → K - 1 - p < t2 → AW p0v l e0v (ax_R (dd + 1) 0 0) s0v m0v args below meth c0v VV G 12 (x_hC S tl) 0 0 (MQ below (ax_Q VV G (fun v h' => v = none ∧ Pq h')) args s0v 0 0 (fun q => G.bs ≤ q)) 31 [(7, .int (nI p)), (6, .int (nI (K - 1))), (5, .int (nI (3 + K))), (4, .int (iZ (zcut x (q 0) (q 1)))), (0, .ref (153 + a)), (1, .ref 139), (2, .ref 138), (3, .ref 140)] [] := by
    intro t2
    induction t2 with
    | zero => intro p a1 a2 a3; exact absurd a3 (by omega)
    | succ t2 ih =>
      intro p a1 a2 a3
      refine AW.run X Z_evaluate_d 21 2 rfl ?_
      have J59 : ∀ (_u : Nat), zPt q K x = p → AW p0v l e0v (ax_R (dd + 1) 0 0) s0v m0v args below meth c0v VV G 12 (x_hC S tl) 0 0 (MQ below (ax_Q VV G (fun v h' => v = none ∧ Pq h')) args s0v 0 0 (fun q => G.bs ≤ q)) 59 [(7, .int (nI p)), (6, .int (nI (K - 1))), (5, .int (nI (3 + K))), (4, .int (iZ (zcut x (q 0) (q 1)))), (0, .ref (153 + a)), (1, .ref 139), (2, .ref 138), (3, .ref 140)] [] := by
        intro _u hp
        have hb := zPt_b (q := q) (K := K) (x := x) hK.1 hq
        rw [hp] at hb
        have hlN : zN (zlo q K p) := by unfold zlo; split; exact (hQ 0 (by omega)).2; exact (hQ _ (by omega)).2
        have hhN : zN (zhi q K p) := by unfold zhi; split; exact (hQ 1 (by omega)).2; exact (hQ _ (by omega)).2
        refine AW.run X Z_evaluate_d 34 1 rfl ?_
        have J85 : ∀ (z : Int32), z = iZ (zlo q K p) → AW p0v l e0v (ax_R (dd + 1) 0 0) s0v m0v args below meth c0v VV G 12 (x_hC S tl) 0 0 (MQ below (ax_Q VV G (fun v h' => v = none ∧ Pq h')) args s0v 0 0 (fun q => G.bs ≤ q)) 85 [(7, .int (nI p)), (6, .int (nI (K - 1))), (5, .int (nI (3 + K))), (4, .int (iZ (zcut x (q 0) (q 1)))), (0, .ref (153 + a)), (1, .ref 139), (2, .ref 138), (3, .ref 140)] [.int z] := by
          intro z hz; subst hz
          refine AW.run X Z_evaluate_d 49 3 rfl ?_
          have J113 : ∀ (z : Int32), z = iZ (zhi q K p) → AW p0v l e0v (ax_R (dd + 1) 0 0) s0v m0v args below meth c0v VV G 12 (x_hC S tl) 0 0 (MQ below (ax_Q VV G (fun v h' => v = none ∧ Pq h')) args s0v 0 0 (fun q => G.bs ≤ q)) 113 [(8, .int (iZ (zlo q K p))), (7, .int (nI p)), (6, .int (nI (K - 1))), (5, .int (nI (3 + K))), (4, .int (iZ (zcut x (q 0) (q 1)))), (0, .ref (153 + a)), (1, .ref 139), (2, .ref 138), (3, .ref 140)] [.int z] := by
            intro z hz; subst hz
            refine AW.run X Z_evaluate_d 64 7 rfl ?_
            refine AW.run X Z_evaluate_d 71 1 rfl ?_
            rw [show nI (3 + K) + nI (K - 1) + Int32.ofInt 2 * nI p = nI (2 + 2 * K + 2 * p) from by rw [show Int32.ofInt 2 * nI p = nI (2 * p) from pk_mul 2 p, nI_add, nI_add]; congr 1; omega]
            refine AW.run X Z_evaluate_d 72 10 rfl ?_
            refine AW.get X ((x_tl _ tl a).trans hO) rfl rfl (Z_evaluate_d.d 82 rfl) ?_
            refine AW.run X Z_evaluate_d 83 1 rfl ?_
            refine AW.iald (j := 2 + 2 * K + 2 * p) X ((x_tl _ tl b).trans hT) rfl rfl (by omega) (by omega) (Z_evaluate_d.d 84 rfl) ?_
            rw [(hQ (2 + 2 * K + 2 * p) (by omega)).1]
            refine AW.run X Z_evaluate_d 85 2 rfl ?_
            refine AW.get X ((x_tl _ tl a).trans hO) rfl rfl (Z_evaluate_d.d 87 rfl) ?_
            refine AW.run X Z_evaluate_d 88 3 rfl ?_
            refine AW.iald (j := 2 + 2 * K + 2 * p + 1) X ((x_tl _ tl b).trans hT) rfl (nI_o1 _) (by omega) (by omega) (Z_evaluate_d.d 91 rfl) ?_
            rw [(hQ (2 + 2 * K + 2 * p + 1) (by omega)).1]
            refine AW.run X Z_evaluate_d 92 1 rfl ?_
            rw [iZ_l (zN_I hX), iZ_l (zN_I hlN), iZ_l (zN_I hhN), iZ_l (zN_I (hQ (2 + 2 * K + 2 * p) (by omega)).2), iZ_l (zN_I (hQ (2 + 2 * K + 2 * p + 1) (by omega)).2)]
            refine AW.callS (As := [.long (lZ (zcut x (q 0) (q 1))), .long (lZ (zlo q K p)), .long (lZ (zhi q K p)), .long (lZ (q (2 + 2 * K + 2 * p))), .long (lZ (q (2 + 2 * K + 2 * p + 1)))]) X (B_laid_m (zcut x (q 0) (q 1)) (zlo q K p) (zhi q K p) (q (2 + 2 * K + 2 * p)) (q (2 + 2 * K + 2 * p + 1)) ⟨hb.2.1, hb.2.2⟩ (zN_L hlN) (zN_L hhN) (by have := hlN.1; have := hhN.2; omega) (hQ _ (by omega)).2 (hQ _ (by omega)).2) cb_Z_23 B_laid_st rfl ⟨by show _ ≤ dd + 1; omega, by show _ ≤ 40 * (dd + 1); omega⟩ (Nat.le_of_ble_eq_true rfl) ⟨Nat.le_of_ble_eq_true rfl, Nat.le_of_ble_eq_true rfl⟩ (Z_evaluate_d.d 93 rfl) (fun v h' q => ?_)
            obtain ⟨rfl, rfl⟩ := q
            rw [show zlaid (zcut x (q 0) (q 1)) (zlo q K p) (zhi q K p) (q (2 + 2 * K + 2 * p)) (q (2 + 2 * K + 2 * p + 1)) = zSt q K x from by unfold zSt; rw [hp]]
            refine AW.cs4 (j := 0) X rfl (by decide) (Z_evaluate_d.d 94 rfl) ?_
            refine AW.run X Z_evaluate_d 95 1 rfl ?_
            refine AW.get X ((x_tl _ tl a).trans hO) rfl rfl (Z_evaluate_d.d 96 rfl) ?_
            refine AW.run X Z_evaluate_d 97 1 rfl ?_
            refine AW.aald (j := p) X ((x_tl _ tl bp).trans hBp) rfl rfl (by omega) (by omega) (Z_evaluate_d.d 98 rfl) ?_
            rw [← hp, hF]
            refine AW.run X Z_evaluate_d 99 2 rfl ?_
            refine AW.ifnull X (Z_evaluate_d.d 101 rfl) ?_
            refine AW.run X Z_evaluate_d 102 4 rfl ?_
            refine AW.callU (rc := ("NumberFunctions$Stitched", Cl_Z, 4)) (As := [.ref 139, .ref 138, .ref 140]) X hE cu_Z_29_Z ((x_tl _ tl pa).trans hC) rfl rfl ⟨by show _ ≤ dd + 1; omega, by show _ ≤ 40 * (dd + 1); omega⟩ (Nat.le_of_ble_eq_true rfl) ⟨Nat.le_of_ble_eq_true rfl, Nat.le_of_ble_eq_true rfl⟩ (Z_evaluate_d.d 106 rfl) (fun v h' q => ?_)
            obtain ⟨rfl, q⟩ := q
            exact AW.vret X (Z_evaluate_d.d 107 rfl) (Nat.le_of_ble_eq_true rfl) (Nat.le_of_ble_eq_true rfl) ⟨rfl, q⟩
          refine AW.icmp_ne X (Z_evaluate_d.d 52 rfl) (fun q52 => ?_) (fun q52 => ?_)
          · refine AW.run X Z_evaluate_d 58 1 rfl ?_
            refine AW.get X ((x_tl _ tl a).trans hO) rfl rfl (Z_evaluate_d.d 59 rfl) ?_
            refine AW.run X Z_evaluate_d 60 3 rfl ?_
            refine AW.iald (j := 3 + K + p) X ((x_tl _ tl b).trans hT) rfl (nI_add (3 + K) p) (by omega) (by omega) (Z_evaluate_d.d 63 rfl) ?_
            rw [(hQ (3 + K + p) (by omega)).1]
            exact J113 _ (by unfold zhi; rw [if_neg (fun z => q52 (by rw [z]))])
          · refine AW.run X Z_evaluate_d 53 1 rfl ?_
            refine AW.get X ((x_tl _ tl a).trans hO) rfl rfl (Z_evaluate_d.d 54 rfl) ?_
            refine AW.run X Z_evaluate_d 55 1 rfl ?_
            refine AW.iald (j := 1) X ((x_tl _ tl b).trans hT) rfl rfl (by omega) (by omega) (Z_evaluate_d.d 56 rfl) ?_
            rw [(hQ (1) (by omega)).1]
            refine AW.goto X (Z_evaluate_d.d 57 rfl) ?_
            exact J113 _ (by unfold zhi; rw [if_pos ((nI_eq (by omega) (by omega)).mp q52)])
        refine AW.if_ne X (Z_evaluate_d.d 35 rfl) (fun q35 => ?_) (fun q35 => ?_)
        · refine AW.run X Z_evaluate_d 41 1 rfl ?_
          refine AW.get X ((x_tl _ tl a).trans hO) rfl rfl (Z_evaluate_d.d 42 rfl) ?_
          refine AW.run X Z_evaluate_d 43 5 rfl ?_
          refine AW.iald (j := 2 + K + p) X ((x_tl _ tl b).trans hT) rfl (by rw [nI_add]; exact (pk_sub (b := 1) (by omega)).trans (by congr 1; omega)) (by omega) (by omega) (Z_evaluate_d.d 48 rfl) ?_
          rw [(hQ (2 + K + p) (by omega)).1]
          exact J85 _ (by unfold zlo; rw [if_neg (fun z => q35 (by rw [z]; rfl))])
        · refine AW.run X Z_evaluate_d 36 1 rfl ?_
          refine AW.get X ((x_tl _ tl a).trans hO) rfl rfl (Z_evaluate_d.d 37 rfl) ?_
          refine AW.run X Z_evaluate_d 38 1 rfl ?_
          refine AW.iald (j := 0) X ((x_tl _ tl b).trans hT) rfl rfl (by omega) (by omega) (Z_evaluate_d.d 39 rfl) ?_
          rw [(hQ (0) (by omega)).1]
          refine AW.goto X (Z_evaluate_d.d 40 rfl) ?_
          exact J85 _ (by unfold zlo; rw [if_pos ((nI_0i (by omega)).mp q35)])
      refine AW.icmp_ge X (Z_evaluate_d.d 23 rfl) (fun q23 => ?_) (fun q23 => ?_)
      · exact J59 0 (by rw [← a2, zpt_0 (by have := cge q23; omega)])
      · have hpk : p < K - 1 := clt q23
        refine AW.run X Z_evaluate_d 24 1 rfl ?_
        refine AW.get X ((x_tl _ tl a).trans hO) rfl rfl (Z_evaluate_d.d 25 rfl) ?_
        refine AW.run X Z_evaluate_d 26 3 rfl ?_
        refine AW.iald (j := 3 + K + p) X ((x_tl _ tl b).trans hT) rfl (nI_add (3 + K) p) (by omega) (by omega) (Z_evaluate_d.d 29 rfl) ?_
        rw [(hQ (3 + K + p) (by omega)).1]
        refine AW.run X Z_evaluate_d 30 1 rfl ?_
        refine AW.icmp_gt X (Z_evaluate_d.d 31 rfl) (fun q31 => ?_) (fun q31 => ?_)
        · exact J59 0 (by rw [← a2, zpt_0 (fun z => by have := (iZ_lt (a := zcut x (q 0) (q 1)) (b := q (3 + K + p)) (zN_I hX) (zN_I (hQ _ (by omega)).2)).mp q31; omega)])
        · refine AW.run X Z_evaluate_d 32 1 rfl ?_
          refine AW.goto X (Z_evaluate_d.d 33 rfl) ?_
          rw [nI_o1]
          exact ih (p + 1) (by omega) (by rw [← a2]; exact (zpt_1 ⟨hpk, Int.not_lt.mp (mt (iZ_lt (a := zcut x (q 0) (q 1)) (b := q (3 + K + p)) (zN_I hX) (zN_I (hQ _ (by omega)).2)).mpr q31)⟩).symm) (by omega)
  exact L31 (K + 1) 0 (by omega) rfl (by omega)

set_option maxHeartbeats 4000000 in
set_option maxRecDepth 100000 in
theorem Z_evaluateG_m {l : Launch} {G : ax_G} (S : x_S) (tl : List va_E) (dd : Nat) (hdd : 6 ≤ dd) (a b bp K o pa : Nat) (q : Nat → Int) (x : Int) (F : Nat → Option Nat) (Pq : List va_E → Prop) (fs : List Value) (hO : tl[a]? = some (.inr (7, [.ref (153 + bp), .int (nI 1), .int (nI o), .ref (153 + b)]))) (hBp : tl[bp]? = some (.inl (4, K, .inr (.inr (.inr (.inr F)))))) (hD : DQ tl b q (4 * K + 2)) (hK : 1 ≤ K ∧ K ≤ 8) (hq : q 0 ≤ q 1) (hx : zN x) (hg : S.2.1 4 0 = iZ x) (hF : F (zPt q K x) = some (153 + pa)) (hC : tl[pa]? = some (.inr (8, fs))) (hE : AM l VV G G_evaluate_y G_evaluate_c 9 none dd 0 0 [.ref (153 + pa), .ref 139, .ref 138, .ref 140] (x_hC (x_a S 4 0 (iZ (zSt q K x))) tl) (fun v h' => v = none ∧ Pq h')) :
    AM l VV G Z_evaluate_y Z_evaluate_c 12 none (dd + 1) 0 0 [.ref (153 + a), .ref 139, .ref 138, .ref 140] (x_hC S tl) (fun v h' => v = none ∧ Pq h') := by
  refine AM.of (pl := pl_Z) (by decide) v_good fl_Z_ok kl_Z_ok nofun (Nat.le_of_ble_eq_true rfl) ?_
  intro p0v e0v s0v m0v args below meth c0v X
  obtain ⟨hL, T, hT, hQ⟩ := hD
  have hX : zN (zcut x (q 0) (q 1)) := zcut_N hx (hQ 0 (by omega)).2 (hQ 1 (by omega)).2
  refine AW.run X Z_evaluate_d 0 3 rfl ?_
  refine AW.cl4 (j := 0) X rfl (by decide) (Z_evaluate_d.d 3 rfl) ?_
  rw [hg]
  refine AW.run X Z_evaluate_d 4 1 rfl ?_
  refine AW.callU (rc := ("NumberFunctions$Stitched", Cl_Z, 4)) (As := [.int (iZ x), .int (nI 0)]) X (F_withinPair_m (153 + a) (153 + b) 7 3 0 (4 * K + 2) _ T x (q 0) (q 1) ((x_tl _ tl a).trans hO) rfl rfl ((x_tl _ tl b).trans hT) hL (by omega) (hQ 0 (by omega)).1 (hQ 1 (by omega)).1 hx (hQ 0 (by omega)).2 (hQ 1 (by omega)).2 hq) cu_Z_15_Z ((x_tl _ tl a).trans hO) rfl rfl ⟨by show _ ≤ dd + 1; omega, by show _ ≤ 40 * (dd + 1); omega⟩ (Nat.le_of_ble_eq_true rfl) ⟨Nat.le_of_ble_eq_true rfl, Nat.le_of_ble_eq_true rfl⟩ (Z_evaluate_d.d 5 rfl) (fun v h' q => ?_)
  obtain ⟨rfl, rfl⟩ := q
  refine AW.run X Z_evaluate_d 6 3 rfl ?_
  refine AW.get X ((x_tl _ tl a).trans hO) rfl rfl (Z_evaluate_d.d 9 rfl) ?_
  refine AW.alen X ((x_tl _ tl bp).trans hBp) rfl rfl (Z_evaluate_d.d 10 rfl) ?_
  refine AW.run X Z_evaluate_d 11 1 rfl ?_
  rw [show Int32.ofInt 3 + nI K = nI (3 + K) from nI_add 3 K]
  refine AW.run X Z_evaluate_d 12 2 rfl ?_
  refine AW.get X ((x_tl _ tl a).trans hO) rfl rfl (Z_evaluate_d.d 14 rfl) ?_
  refine AW.alen X ((x_tl _ tl bp).trans hBp) rfl rfl (Z_evaluate_d.d 15 rfl) ?_
  refine AW.run X Z_evaluate_d 16 1 rfl ?_
  refine AW.run X Z_evaluate_d 17 1 rfl ?_
  rw [show nI K - Int32.ofInt 1 = nI (K - 1) from pk_sub (b := 1) hK.1]
  refine AW.run X Z_evaluate_d 18 3 rfl ?_
  have L31 : ∀ (t2 p : Nat), p ≤ K - 1 → zpt q K (zcut x (q 0) (q 1)) p = zPt q K x → K - 1 - p < t2 → AW p0v l e0v (ax_R (dd + 1) 0 0) s0v m0v args below meth c0v VV G 12 (x_hC S tl) 0 0 (MQ below (ax_Q VV G (fun v h' => v = none ∧ Pq h')) args s0v 0 0 (fun q => G.bs ≤ q)) 31 [(7, .int (nI p)), (6, .int (nI (K - 1))), (5, .int (nI (3 + K))), (4, .int (iZ (zcut x (q 0) (q 1)))), (0, .ref (153 + a)), (1, .ref 139), (2, .ref 138), (3, .ref 140)] [] := by
    intro t2
    induction t2 with
    | zero => intro p a1 a2 a3; exact absurd a3 (by omega)
    | succ t2 ih =>
      intro p a1 a2 a3
      refine AW.run X Z_evaluate_d 21 2 rfl ?_
      have J59 : ∀ (_u : Nat), zPt q K x = p → AW p0v l e0v (ax_R (dd + 1) 0 0) s0v m0v args below meth c0v VV G 12 (x_hC S tl) 0 0 (MQ below (ax_Q VV G (fun v h' => v = none ∧ Pq h')) args s0v 0 0 (fun q => G.bs ≤ q)) 59 [(7, .int (nI p)), (6, .int (nI (K - 1))), (5, .int (nI (3 + K))), (4, .int (iZ (zcut x (q 0) (q 1)))), (0, .ref (153 + a)), (1, .ref 139), (2, .ref 138), (3, .ref 140)] [] := by
        intro _u hp
        have hb := zPt_b (q := q) (K := K) (x := x) hK.1 hq
        rw [hp] at hb
        have hlN : zN (zlo q K p) := by unfold zlo; split; exact (hQ 0 (by omega)).2; exact (hQ _ (by omega)).2
        have hhN : zN (zhi q K p) := by unfold zhi; split; exact (hQ 1 (by omega)).2; exact (hQ _ (by omega)).2
        refine AW.run X Z_evaluate_d 34 1 rfl ?_
        have J85 : ∀ (z : Int32), z = iZ (zlo q K p) → AW p0v l e0v (ax_R (dd + 1) 0 0) s0v m0v args below meth c0v VV G 12 (x_hC S tl) 0 0 (MQ below (ax_Q VV G (fun v h' => v = none ∧ Pq h')) args s0v 0 0 (fun q => G.bs ≤ q)) 85 [(7, .int (nI p)), (6, .int (nI (K - 1))), (5, .int (nI (3 + K))), (4, .int (iZ (zcut x (q 0) (q 1)))), (0, .ref (153 + a)), (1, .ref 139), (2, .ref 138), (3, .ref 140)] [.int z] := by
          intro z hz; subst hz
          refine AW.run X Z_evaluate_d 49 3 rfl ?_
          have J113 : ∀ (z : Int32), z = iZ (zhi q K p) → AW p0v l e0v (ax_R (dd + 1) 0 0) s0v m0v args below meth c0v VV G 12 (x_hC S tl) 0 0 (MQ below (ax_Q VV G (fun v h' => v = none ∧ Pq h')) args s0v 0 0 (fun q => G.bs ≤ q)) 113 [(8, .int (iZ (zlo q K p))), (7, .int (nI p)), (6, .int (nI (K - 1))), (5, .int (nI (3 + K))), (4, .int (iZ (zcut x (q 0) (q 1)))), (0, .ref (153 + a)), (1, .ref 139), (2, .ref 138), (3, .ref 140)] [.int z] := by
            intro z hz; subst hz
            refine AW.run X Z_evaluate_d 64 7 rfl ?_
            refine AW.run X Z_evaluate_d 71 1 rfl ?_
            rw [show nI (3 + K) + nI (K - 1) + Int32.ofInt 2 * nI p = nI (2 + 2 * K + 2 * p) from by rw [show Int32.ofInt 2 * nI p = nI (2 * p) from pk_mul 2 p, nI_add, nI_add]; congr 1; omega]
            refine AW.run X Z_evaluate_d 72 10 rfl ?_
            refine AW.get X ((x_tl _ tl a).trans hO) rfl rfl (Z_evaluate_d.d 82 rfl) ?_
            refine AW.run X Z_evaluate_d 83 1 rfl ?_
            refine AW.iald (j := 2 + 2 * K + 2 * p) X ((x_tl _ tl b).trans hT) rfl rfl (by omega) (by omega) (Z_evaluate_d.d 84 rfl) ?_
            rw [(hQ (2 + 2 * K + 2 * p) (by omega)).1]
            refine AW.run X Z_evaluate_d 85 2 rfl ?_
            refine AW.get X ((x_tl _ tl a).trans hO) rfl rfl (Z_evaluate_d.d 87 rfl) ?_
            refine AW.run X Z_evaluate_d 88 3 rfl ?_
            refine AW.iald (j := 2 + 2 * K + 2 * p + 1) X ((x_tl _ tl b).trans hT) rfl (nI_o1 _) (by omega) (by omega) (Z_evaluate_d.d 91 rfl) ?_
            rw [(hQ (2 + 2 * K + 2 * p + 1) (by omega)).1]
            refine AW.run X Z_evaluate_d 92 1 rfl ?_
            rw [iZ_l (zN_I hX), iZ_l (zN_I hlN), iZ_l (zN_I hhN), iZ_l (zN_I (hQ (2 + 2 * K + 2 * p) (by omega)).2), iZ_l (zN_I (hQ (2 + 2 * K + 2 * p + 1) (by omega)).2)]
            refine AW.callS (As := [.long (lZ (zcut x (q 0) (q 1))), .long (lZ (zlo q K p)), .long (lZ (zhi q K p)), .long (lZ (q (2 + 2 * K + 2 * p))), .long (lZ (q (2 + 2 * K + 2 * p + 1)))]) X (B_laid_m (zcut x (q 0) (q 1)) (zlo q K p) (zhi q K p) (q (2 + 2 * K + 2 * p)) (q (2 + 2 * K + 2 * p + 1)) ⟨hb.2.1, hb.2.2⟩ (zN_L hlN) (zN_L hhN) (by have := hlN.1; have := hhN.2; omega) (hQ _ (by omega)).2 (hQ _ (by omega)).2) cb_Z_23 B_laid_st rfl ⟨by show _ ≤ dd + 1; omega, by show _ ≤ 40 * (dd + 1); omega⟩ (Nat.le_of_ble_eq_true rfl) ⟨Nat.le_of_ble_eq_true rfl, Nat.le_of_ble_eq_true rfl⟩ (Z_evaluate_d.d 93 rfl) (fun v h' q => ?_)
            obtain ⟨rfl, rfl⟩ := q
            rw [show zlaid (zcut x (q 0) (q 1)) (zlo q K p) (zhi q K p) (q (2 + 2 * K + 2 * p)) (q (2 + 2 * K + 2 * p + 1)) = zSt q K x from by unfold zSt; rw [hp]]
            refine AW.cs4 (j := 0) X rfl (by decide) (Z_evaluate_d.d 94 rfl) ?_
            refine AW.run X Z_evaluate_d 95 1 rfl ?_
            refine AW.get X ((x_tl _ tl a).trans hO) rfl rfl (Z_evaluate_d.d 96 rfl) ?_
            refine AW.run X Z_evaluate_d 97 1 rfl ?_
            refine AW.aald (j := p) X ((x_tl _ tl bp).trans hBp) rfl rfl (by omega) (by omega) (Z_evaluate_d.d 98 rfl) ?_
            rw [← hp, hF]
            refine AW.run X Z_evaluate_d 99 2 rfl ?_
            refine AW.ifnull X (Z_evaluate_d.d 101 rfl) ?_
            refine AW.run X Z_evaluate_d 102 4 rfl ?_
            refine AW.callU (rc := ("NumberFunctions$Program", Cl_G, 9)) (As := [.ref 139, .ref 138, .ref 140]) X hE cu_Z_29_G ((x_tl _ tl pa).trans hC) rfl rfl ⟨by show _ ≤ dd + 1; omega, by show _ ≤ 40 * (dd + 1); omega⟩ (Nat.le_of_ble_eq_true rfl) ⟨Nat.le_of_ble_eq_true rfl, Nat.le_of_ble_eq_true rfl⟩ (Z_evaluate_d.d 106 rfl) (fun v h' q => ?_)
            obtain ⟨rfl, q⟩ := q
            exact AW.vret X (Z_evaluate_d.d 107 rfl) (Nat.le_of_ble_eq_true rfl) (Nat.le_of_ble_eq_true rfl) ⟨rfl, q⟩
          refine AW.icmp_ne X (Z_evaluate_d.d 52 rfl) (fun q52 => ?_) (fun q52 => ?_)
          · refine AW.run X Z_evaluate_d 58 1 rfl ?_
            refine AW.get X ((x_tl _ tl a).trans hO) rfl rfl (Z_evaluate_d.d 59 rfl) ?_
            refine AW.run X Z_evaluate_d 60 3 rfl ?_
            refine AW.iald (j := 3 + K + p) X ((x_tl _ tl b).trans hT) rfl (nI_add (3 + K) p) (by omega) (by omega) (Z_evaluate_d.d 63 rfl) ?_
            rw [(hQ (3 + K + p) (by omega)).1]
            exact J113 _ (by unfold zhi; rw [if_neg (fun z => q52 (by rw [z]))])
          · refine AW.run X Z_evaluate_d 53 1 rfl ?_
            refine AW.get X ((x_tl _ tl a).trans hO) rfl rfl (Z_evaluate_d.d 54 rfl) ?_
            refine AW.run X Z_evaluate_d 55 1 rfl ?_
            refine AW.iald (j := 1) X ((x_tl _ tl b).trans hT) rfl rfl (by omega) (by omega) (Z_evaluate_d.d 56 rfl) ?_
            rw [(hQ (1) (by omega)).1]
            refine AW.goto X (Z_evaluate_d.d 57 rfl) ?_
            exact J113 _ (by unfold zhi; rw [if_pos ((nI_eq (by omega) (by omega)).mp q52)])
        refine AW.if_ne X (Z_evaluate_d.d 35 rfl) (fun q35 => ?_) (fun q35 => ?_)
        · refine AW.run X Z_evaluate_d 41 1 rfl ?_
          refine AW.get X ((x_tl _ tl a).trans hO) rfl rfl (Z_evaluate_d.d 42 rfl) ?_
          refine AW.run X Z_evaluate_d 43 5 rfl ?_
          refine AW.iald (j := 2 + K + p) X ((x_tl _ tl b).trans hT) rfl (by rw [nI_add]; exact (pk_sub (b := 1) (by omega)).trans (by congr 1; omega)) (by omega) (by omega) (Z_evaluate_d.d 48 rfl) ?_
          rw [(hQ (2 + K + p) (by omega)).1]
          exact J85 _ (by unfold zlo; rw [if_neg (fun z => q35 (by rw [z]; rfl))])
        · refine AW.run X Z_evaluate_d 36 1 rfl ?_
          refine AW.get X ((x_tl _ tl a).trans hO) rfl rfl (Z_evaluate_d.d 37 rfl) ?_
          refine AW.run X Z_evaluate_d 38 1 rfl ?_
          refine AW.iald (j := 0) X ((x_tl _ tl b).trans hT) rfl rfl (by omega) (by omega) (Z_evaluate_d.d 39 rfl) ?_
          rw [(hQ (0) (by omega)).1]
          refine AW.goto X (Z_evaluate_d.d 40 rfl) ?_
          exact J85 _ (by unfold zlo; rw [if_pos ((nI_0i (by omega)).mp q35)])
      refine AW.icmp_ge X (Z_evaluate_d.d 23 rfl) (fun q23 => ?_) (fun q23 => ?_)
      · exact J59 0 (by rw [← a2, zpt_0 (by have := cge q23; omega)])
      · have hpk : p < K - 1 := clt q23
        refine AW.run X Z_evaluate_d 24 1 rfl ?_
        refine AW.get X ((x_tl _ tl a).trans hO) rfl rfl (Z_evaluate_d.d 25 rfl) ?_
        refine AW.run X Z_evaluate_d 26 3 rfl ?_
        refine AW.iald (j := 3 + K + p) X ((x_tl _ tl b).trans hT) rfl (nI_add (3 + K) p) (by omega) (by omega) (Z_evaluate_d.d 29 rfl) ?_
        rw [(hQ (3 + K + p) (by omega)).1]
        refine AW.run X Z_evaluate_d 30 1 rfl ?_
        refine AW.icmp_gt X (Z_evaluate_d.d 31 rfl) (fun q31 => ?_) (fun q31 => ?_)
        · exact J59 0 (by rw [← a2, zpt_0 (fun z => by have := (iZ_lt (a := zcut x (q 0) (q 1)) (b := q (3 + K + p)) (zN_I hX) (zN_I (hQ _ (by omega)).2)).mp q31; omega)])
        · refine AW.run X Z_evaluate_d 32 1 rfl ?_
          refine AW.goto X (Z_evaluate_d.d 33 rfl) ?_
          rw [nI_o1]
          exact ih (p + 1) (by omega) (by rw [← a2]; exact (zpt_1 ⟨hpk, Int.not_lt.mp (mt (iZ_lt (a := zcut x (q 0) (q 1)) (b := q (3 + K + p)) (zN_I hX) (zN_I (hQ _ (by omega)).2)).mpr q31)⟩).symm) (by omega)
  exact L31 (K + 1) 0 (by omega) rfl (by omega)

