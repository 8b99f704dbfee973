/-! signs of bytes -/
def sgn (x : Int32) : Nat := x.toBitVec.toNat % 256
theorem sgn_lt (x : Int32) : sgn x < 256 := Nat.mod_lt _ (by decide)
theorem sgn_and (x : Int32) : x &&& 255 = nI (sgn x) := by
  apply Int32.toBitVec_inj.mp
  rw [Int32.toBitVec_and]
  apply BitVec.eq_of_toNat_eq
  rw [BitVec.toNat_and]
  show x.toBitVec.toNat &&& (2 ^ 8 - 1) = (BitVec.ofNat 32 (sgn x)).toNat
  rw [BitVec.toNat_ofNat, Nat.and_two_pow_sub_one_eq_mod]
  exact (Nat.mod_eq_of_lt (Nat.lt_of_lt_of_le (sgn_lt x) (by decide))).symm
/-- the signs of the class's row -/
def sgS (S : x_S) : Nat → Nat := fun j => sgn (S.2.1 0 j)
theorem sgS_lt (S : x_S) (j : Nat) : sgS S j < 256 := sgn_lt _
theorem br_i {n : Nat} (h : n < 256) : (nI n = 123 ∨ nI n = 125) ↔ (n = 123 ∨ n = 125) := by
  rw [show (123 : Int32) = nI 123 from rfl, show (125 : Int32) = nI 125 from rfl, nI_eq (by omega) (by decide), nI_eq (by omega) (by decide)]
theorem wp_s {w s : Nat} (hs : 48 ≤ s) : nI w * (Int8.ofInt 10).toInt32 + nI s - (Int8.ofInt 48).toInt32 = nI (w * 10 + (s - 48)) := by
  rw [show (Int8.ofInt 10).toInt32 = nI 10 from rfl, show (Int8.ofInt 48).toInt32 = nI 48 from rfl, pk_mul, nI_add, pk_sub (by omega)]
  congr 1; omega
theorem min_i {a b : Nat} (ha : a < 2 ^ 31) (hb : b < 2 ^ 31) : (if nI b < nI a then nI b else nI a) = nI (min a b) := by
  by_cases z : b < a
  · rw [if_pos ((nI_ltI hb ha).mpr z), show min a b = b by omega]
  · rw [if_neg (mt (nI_ltI hb ha).mp z), show min a b = a by omega]
theorem nl_l {n : Nat} (h : n < 2 ^ 31) : (nI n).toInt64 = lZ n := by rw [iZ_n]; exact iZ_l ⟨by omega, by omega⟩
theorem fr_s {F d : Nat} (hd : d < 2 ^ 31) : lZ F * (10 : Int64) + (nI d).toInt64 = lZ ((F * 10 + d : Nat) : Int) := by
  rw [nl_l hd, show (10 : Int64) = lZ 10 from rfl, lZ_mul, lZ_add]; congr 1
theorem fr_e {F : Nat} (hF : F < 1000000000) : (lZ F * (65536 : Int64) / (1000000000 : Int64)).toInt32 = nI (F * 65536 / 1000000000) := by
  rw [show (65536 : Int64) = lZ 65536 from rfl, show (1000000000 : Int64) = lZ 1000000000 from rfl, lZ_mul, lZ_div ⟨by omega, by omega⟩ ⟨by decide, by decide⟩ (Or.inr (by decide)), lZ_i, iZ_n]
  congr 1
theorem nf_ge (sg : Nat → Nat) (s : Nat) : s ≤ nf sg s ∧ nf sg s ≤ s + 1 := by unfold nf; split <;> omega
theorem isn_dg {sg : Nat → Nat} {s e : Nat} (h : nla sg s e = e) : ∀ j, npt sg s e + 1 ≤ j → j < e → 48 ≤ sg j ∧ sg j ≤ 57 := by
  intro j l1 l2
  by_cases hp : npt sg s e < e ∧ sg (npt sg s e) = 46
  · have hla : nla sg s e = de sg e (npt sg s e + 1) := if_pos hp
    exact de_dg (e := e) l1 (by omega)
  · have hla : nla sg s e = npt sg s e := if_neg hp
    omega
theorem nr_4 {sg : Nat → Nat} {s e : Nat} (h : ¬isn sg s e) : nr sg s e = 4 := if_pos (dc_f h)
theorem nr_3 {sg : Nat → Nat} {s e : Nat} (h : isn sg s e) (g : 16383 < nwh sg s e) : nr sg s e = 3 := (if_neg (by rw [dc_t h]; decide)).trans (if_pos g)
theorem nr_m {sg : Nat → Nat} {s e : Nat} (h : isn sg s e) (g : nwh sg s e ≤ 16383) : nr sg s e = -1 := (if_neg (by rw [dc_t h]; decide)).trans (if_neg (by omega))
theorem nla_le {sg : Nat → Nat} {s e : Nat} (h : npt sg s e ≤ e) : nla sg s e ≤ e := by
  unfold nla; split
  · exact de_le (by omega)
  · exact h
theorem nv_p {sg : Nat → Nat} {s e : Nat} (h : ¬sg s = 45) : nI (nwh sg s e) * 65536 + nI (nfr sg s e) = iZ (nv sg s e) := by
  unfold nv
  rw [if_neg h, show nI (nwh sg s e) * 65536 = nI (nwh sg s e * 65536) from pk_mul _ 65536, nI_add, iZ_n]
theorem nv_n {sg : Nat → Nat} {s e : Nat} (h : sg s = 45) : -(nI (nwh sg s e) * 65536 + nI (nfr sg s e)) = iZ (nv sg s e) := by
  unfold nv
  rw [if_pos h, show nI (nwh sg s e) * 65536 = nI (nwh sg s e * 65536) from pk_mul _ 65536, nI_add, iZ_n, iZ_neg]
set_option maxHeartbeats 4000000 in
set_option maxRecDepth 100000 in
theorem R_signAt_m {l : Launch} {G : ax_G} (S : x_S) (tl : List va_E) (k n : Nat) (hv : S.2.2.2 = .ref 133) (hl : S.1 7 = nI n) (hn : n ≤ 8192) (hk : k < n) :
    AM l VV G R_signAt_y R_signAt_c 2 (some .int) 0 0 0 [.ref 141, .int (nI k)] (x_hC S tl) (fun v h' => v = some (.int (nI (sgS S k))) ∧ h' = x_hC S tl) := by
  refine AM.of (pl := pl_R) (by decide) v_good fl_R_ok kl_R_ok nofun (Nat.le_of_ble_eq_true rfl) ?_
  intro p0v e0v s0v m0v args below meth c0v X
  refine AW.run X R_signAt_d 0 1 rfl ?_
  refine AW.if_lt X (R_signAt_d.d 1 rfl) (fun q1 => absurd q1 (nI_pos (by omega))) (fun q1 => ?_)
  refine AW.run X R_signAt_d 2 3 rfl ?_
  refine AW.icmp_lt X (R_signAt_d.d 5 rfl) (fun q5 => ?_) (fun q5 => absurd (show nI k < S.1 7 by rw [hl]; exact nI_lt hk (by omega)) q5)
  refine AW.run X R_signAt_d 8 1 rfl ?_
  refine AW.run X R_signAt_d 9 1 rfl ?_
  rw [hv]
  refine AW.run X R_signAt_d 10 1 rfl ?_
  refine AW.cl0 (j := k) X rfl (by omega) (R_signAt_d.d 11 rfl) ?_
  refine AW.run X R_signAt_d 12 2 rfl ?_
  exact AW.iret X (R_signAt_d.d 14 rfl) (Nat.le_of_ble_eq_true rfl) (Nat.le_of_ble_eq_true rfl) ⟨congrArg (fun z => some (Value.int z)) (sgn_and _), rfl⟩

set_option maxHeartbeats 4000000 in
set_option maxRecDepth 100000 in
theorem R_wordStart_m {l : Launch} {G : ax_G} (S : x_S) (tl : List va_E) (k n : Nat) (hv : S.2.2.2 = .ref 133) (hl : S.1 7 = nI n) (hn : n ≤ 8192) (hk : k ≤ n) :
    AM l VV G R_wordStart_y R_wordStart_c 3 (some .int) 1 0 0 [.ref 141, .int (nI k)] (x_hC S tl) (fun v h' => v = some (.int (nI (ws (sgS S) n k))) ∧ h' = x_hC S tl) := by
  refine AM.of (pl := pl_R) (by decide) v_good fl_R_ok kl_R_ok nofun (Nat.le_of_ble_eq_true rfl) ?_
  intro p0v e0v s0v m0v args below meth c0v X
  refine AW.run X R_wordStart_d 0 2 rfl ?_
  have L2 : ∀ (t2 j : Nat), j ≤ n → ws (sgS S) n j = ws (sgS S) n k → n - j < t2 → AW p0v l e0v (ax_R 1 0 0) s0v m0v args below meth c0v VV G 3 (x_hC S tl) 0 0 (MQ below (ax_Q VV G (fun v h' => v = some (.int (nI (ws (sgS S) n k))) ∧ h' = x_hC S tl)) args s0v 0 0 (fun q => G.bs ≤ q)) 2 [(2, .int (nI j)), (0, .ref 141), (1, .int (nI k))] [] := by
    intro t2
    induction t2 with
    | zero => intro j h1 e1 h2; exact absurd h2 (by omega)
    | succ t2 ih =>
      intro j h1 e1 h2
      refine AW.run X R_wordStart_d 2 3 rfl ?_
      refine AW.icmp_ge X (R_wordStart_d.d 5 rfl) (fun q5 => ?_) (fun q5 => ?_)
      · refine AW.run X R_wordStart_d 13 1 rfl ?_
        exact AW.iret X (R_wordStart_d.d 14 rfl) (Nat.le_of_ble_eq_true rfl) (Nat.le_of_ble_eq_true rfl) ⟨by rw [← e1, ws_0 (fun z => by have := cge q5 rfl hl; omega)], rfl⟩
      · have hj : j < n := clt q5 rfl hl
        refine AW.run X R_wordStart_d 6 2 rfl ?_
        refine AW.callV (As := [.int (nI j)]) X (R_signAt_m S tl j n hv hl hn hj) cb_R_70 rfl rfl R_signAt_im R_signAt_se rfl ⟨Nat.le_of_ble_eq_true rfl, Nat.le_of_ble_eq_true rfl⟩ (Nat.le_of_ble_eq_true rfl) ⟨Nat.le_of_ble_eq_true rfl, Nat.le_of_ble_eq_true rfl⟩ (R_wordStart_d.d 8 rfl) (fun v h' q => ?_)
        obtain ⟨rfl, rfl⟩ := q
        have hs := sgS_lt S j
        refine AW.run X R_wordStart_d 9 1 rfl ?_
        refine AW.icmp_gt X (R_wordStart_d.d 10 rfl) (fun q10 => ?_) (fun q10 => ?_)
        · refine AW.run X R_wordStart_d 13 1 rfl ?_
          exact AW.iret X (R_wordStart_d.d 14 rfl) (Nat.le_of_ble_eq_true rfl) (Nat.le_of_ble_eq_true rfl) ⟨by rw [← e1, ws_0 (fun z => absurd z.2 (Nat.not_le.mpr (cgt q10)))], rfl⟩
        · refine AW.run X R_wordStart_d 11 1 rfl ?_
          refine AW.goto X (R_wordStart_d.d 12 rfl) ?_
          rw [nI_o1]
          exact ih (j + 1) (by omega) (by rw [← e1]; exact (ws_1 hj (cle q10)).symm) (by omega)
  exact L2 (n + 1) k hk rfl (by omega)

set_option maxHeartbeats 4000000 in
set_option maxRecDepth 100000 in
theorem R_wordEnd_m {l : Launch} {G : ax_G} (S : x_S) (tl : List va_E) (k n : Nat) (hv : S.2.2.2 = .ref 133) (hl : S.1 7 = nI n) (hn : n ≤ 8192) (hk : k < n) :
    AM l VV G R_wordEnd_y R_wordEnd_c 3 (some .int) 1 0 0 [.ref 141, .int (nI k)] (x_hC S tl) (fun v h' => v = some (.int (nI (we (sgS S) n k))) ∧ h' = x_hC S tl) := by
  refine AM.of (pl := pl_R) (by decide) v_good fl_R_ok kl_R_ok nofun (Nat.le_of_ble_eq_true rfl) ?_
  intro p0v e0v s0v m0v args below meth c0v X
  refine AW.run X R_wordEnd_d 0 2 rfl ?_
  refine AW.callV (As := [.int (nI k)]) X (R_signAt_m S tl k n hv hl hn hk) cb_R_70 rfl rfl R_signAt_im R_signAt_se rfl ⟨Nat.le_of_ble_eq_true rfl, Nat.le_of_ble_eq_true rfl⟩ (Nat.le_of_ble_eq_true rfl) ⟨Nat.le_of_ble_eq_true rfl, Nat.le_of_ble_eq_true rfl⟩ (R_wordEnd_d.d 2 rfl) (fun v h' q => ?_)
  obtain ⟨rfl, rfl⟩ := q
  refine AW.callS (As := [.int (nI (sgS S k))]) X (R_isBrace_m _) cb_R_73 R_isBrace_st rfl ⟨Nat.le_of_ble_eq_true rfl, Nat.le_of_ble_eq_true rfl⟩ (Nat.le_of_ble_eq_true rfl) ⟨Nat.le_of_ble_eq_true rfl, Nat.le_of_ble_eq_true rfl⟩ (R_wordEnd_d.d 3 rfl) (fun v h' q => ?_)
  obtain ⟨rfl, rfl⟩ := q
  refine AW.if_eq X (R_wordEnd_d.d 4 rfl) (fun q4 => ?_) (fun q4 => ?_)
  · have hw : we (sgS S) n k = wn (sgS S) n (k + 1) := if_neg (fun z => of_decide_eq_false ((bI_0 _).mp q4) ((br_i (sgS_lt S _)).mpr z))
    refine AW.run X R_wordEnd_d 9 4 rfl ?_
    have L19 : ∀ (t2 j : Nat), j ≤ n → wn (sgS S) n j = wn (sgS S) n (k + 1) → n - j < t2 → AW p0v l e0v (ax_R 1 0 0) s0v m0v args below meth c0v VV G 3 (x_hC S tl) 0 0 (MQ below (ax_Q VV G (fun v h' => v = some (.int (nI (we (sgS S) n k))) ∧ h' = x_hC S tl)) args s0v 0 0 (fun q => G.bs ≤ q)) 19 [(2, .int (nI j)), (0, .ref 141), (1, .int (nI k))] [] := by
      intro t2
      induction t2 with
      | zero => intro j h1 e1 h2; exact absurd h2 (by omega)
      | succ t2 ih =>
        intro j h1 e1 h2
        refine AW.run X R_wordEnd_d 13 3 rfl ?_
        refine AW.icmp_ge X (R_wordEnd_d.d 16 rfl) (fun q16 => ?_) (fun q16 => ?_)
        · refine AW.run X R_wordEnd_d 29 1 rfl ?_
          exact AW.iret X (R_wordEnd_d.d 30 rfl) (Nat.le_of_ble_eq_true rfl) (Nat.le_of_ble_eq_true rfl) ⟨by rw [hw, ← e1, wn_0 (fun z => by have := cge q16 rfl hl; omega)], rfl⟩
        · have hj : j < n := clt q16 rfl hl
          refine AW.run X R_wordEnd_d 17 2 rfl ?_
          refine AW.callV (As := [.int (nI j)]) X (R_signAt_m S tl j n hv hl hn hj) cb_R_70 rfl rfl R_signAt_im R_signAt_se rfl ⟨Nat.le_of_ble_eq_true rfl, Nat.le_of_ble_eq_true rfl⟩ (Nat.le_of_ble_eq_true rfl) ⟨Nat.le_of_ble_eq_true rfl, Nat.le_of_ble_eq_true rfl⟩ (R_wordEnd_d.d 19 rfl) (fun v h' q => ?_)
          obtain ⟨rfl, rfl⟩ := q
          have hs := sgS_lt S j
          refine AW.run X R_wordEnd_d 20 1 rfl ?_
          refine AW.icmp_le X (R_wordEnd_d.d 21 rfl) (fun q21 => ?_) (fun q21 => ?_)
          · refine AW.run X R_wordEnd_d 29 1 rfl ?_
            exact AW.iret X (R_wordEnd_d.d 30 rfl) (Nat.le_of_ble_eq_true rfl) (Nat.le_of_ble_eq_true rfl) ⟨by rw [hw, ← e1, wn_0 (fun z => absurd z.2.1 (Nat.not_lt.mpr (cge (a := 32) q21 (by decide) rfl)))], rfl⟩
          · refine AW.run X R_wordEnd_d 22 2 rfl ?_
            refine AW.callV (As := [.int (nI j)]) X (R_signAt_m S tl j n hv hl hn hj) cb_R_70 rfl rfl R_signAt_im R_signAt_se rfl ⟨Nat.le_of_ble_eq_true rfl, Nat.le_of_ble_eq_true rfl⟩ (Nat.le_of_ble_eq_true rfl) ⟨Nat.le_of_ble_eq_true rfl, Nat.le_of_ble_eq_true rfl⟩ (R_wordEnd_d.d 24 rfl) (fun v h' q => ?_)
            obtain ⟨rfl, rfl⟩ := q
            refine AW.callS (As := [.int (nI (sgS S j))]) X (R_isBrace_m _) cb_R_73 R_isBrace_st rfl ⟨Nat.le_of_ble_eq_true rfl, Nat.le_of_ble_eq_true rfl⟩ (Nat.le_of_ble_eq_true rfl) ⟨Nat.le_of_ble_eq_true rfl, Nat.le_of_ble_eq_true rfl⟩ (R_wordEnd_d.d 25 rfl) (fun v h' q => ?_)
            obtain ⟨rfl, rfl⟩ := q
            refine AW.if_ne X (R_wordEnd_d.d 26 rfl) (fun q26 => ?_) (fun q26 => ?_)
            · refine AW.run X R_wordEnd_d 29 1 rfl ?_
              exact AW.iret X (R_wordEnd_d.d 30 rfl) (Nat.le_of_ble_eq_true rfl) (Nat.le_of_ble_eq_true rfl) ⟨by rw [hw, ← e1, wn_0 (fun z => z.2.2 ((br_i (sgS_lt S _)).mp (of_decide_eq_true (Bool.of_not_eq_false (fun y => q26 ((bI_0 _).mpr y))))))], rfl⟩
            · refine AW.run X R_wordEnd_d 27 1 rfl ?_
              refine AW.goto X (R_wordEnd_d.d 28 rfl) ?_
              rw [nI_o1]
              exact ih (j + 1) (by omega) (by rw [← e1]; exact (wn_1 ⟨hj, clt (a := 32) q21 (by decide) rfl, fun z => of_decide_eq_false ((bI_0 _).mp q26) ((br_i (sgS_lt S _)).mpr z)⟩).symm) (by omega)
    rw [nI_o1]
    exact L19 (n + 1) (k + 1) (by omega) rfl (by omega)
  · refine AW.run X R_wordEnd_d 5 3 rfl ?_
    exact AW.iret X (R_wordEnd_d.d 8 rfl) (Nat.le_of_ble_eq_true rfl) (Nat.le_of_ble_eq_true rfl) ⟨by rw [nI_o1, show we (sgS S) n k = k + 1 from if_pos ((br_i (sgS_lt S _)).mp (of_decide_eq_true (Bool.of_not_eq_false (fun y => q4 ((bI_0 _).mpr y)))))], rfl⟩

set_option maxHeartbeats 4000000 in
set_option maxRecDepth 100000 in
theorem R_digitsEnd_m {l : Launch} {G : ax_G} (S : x_S) (tl : List va_E) (k e n : Nat) (hv : S.2.2.2 = .ref 133) (hl : S.1 7 = nI n) (hn : n ≤ 8192) (hk : k ≤ e) (he : e ≤ n) :
    AM l VV G R_digitsEnd_y R_digitsEnd_c 4 (some .int) 1 0 0 [.ref 141, .int (nI k), .int (nI e)] (x_hC S tl) (fun v h' => v = some (.int (nI (de (sgS S) e k))) ∧ h' = x_hC S tl) := by
  refine AM.of (pl := pl_R) (by decide) v_good fl_R_ok kl_R_ok nofun (Nat.le_of_ble_eq_true rfl) ?_
  intro p0v e0v s0v m0v args below meth c0v X
  refine AW.run X R_digitsEnd_d 0 2 rfl ?_
  have L2 : ∀ (t2 j : Nat), j ≤ e → de (sgS S) e j = de (sgS S) e k → e - j < t2 → AW p0v l e0v (ax_R 1 0 0) s0v m0v args below meth c0v VV G 4 (x_hC S tl) 0 0 (MQ below (ax_Q VV G (fun v h' => v = some (.int (nI (de (sgS S) e k))) ∧ h' = x_hC S tl)) args s0v 0 0 (fun q => G.bs ≤ q)) 2 [(3, .int (nI j)), (0, .ref 141), (1, .int (nI k)), (2, .int (nI e))] [] := by
    intro t2
    induction t2 with
    | zero => intro j h1 e1 h2; exact absurd h2 (by omega)
    | succ t2 ih =>
      intro j h1 e1 h2
      refine AW.run X R_digitsEnd_d 2 2 rfl ?_
      refine AW.icmp_ge X (R_digitsEnd_d.d 4 rfl) (fun q4 => ?_) (fun q4 => ?_)
      · refine AW.run X R_digitsEnd_d 17 1 rfl ?_
        exact AW.iret X (R_digitsEnd_d.d 18 rfl) (Nat.le_of_ble_eq_true rfl) (Nat.le_of_ble_eq_true rfl) ⟨by rw [← e1, de_0 (fun z => by have := cge q4; omega)], rfl⟩
      · have hj : j < e := clt q4
        refine AW.run X R_digitsEnd_d 5 2 rfl ?_
        refine AW.callV (As := [.int (nI j)]) X (R_signAt_m S tl j n hv hl hn (by omega)) cb_R_70 rfl rfl R_signAt_im R_signAt_se rfl ⟨Nat.le_of_ble_eq_true rfl, Nat.le_of_ble_eq_true rfl⟩ (Nat.le_of_ble_eq_true rfl) ⟨Nat.le_of_ble_eq_true rfl, Nat.le_of_ble_eq_true rfl⟩ (R_digitsEnd_d.d 7 rfl) (fun v h' q => ?_)
        obtain ⟨rfl, rfl⟩ := q
        have hs := sgS_lt S j
        refine AW.run X R_digitsEnd_d 8 1 rfl ?_
        refine AW.icmp_lt X (R_digitsEnd_d.d 9 rfl) (fun q9 => ?_) (fun q9 => ?_)
        · refine AW.run X R_digitsEnd_d 17 1 rfl ?_
          exact AW.iret X (R_digitsEnd_d.d 18 rfl) (Nat.le_of_ble_eq_true rfl) (Nat.le_of_ble_eq_true rfl) ⟨by rw [← e1, de_0 (fun z => absurd z.2.1 (Nat.not_le.mpr (cgt (b := sgS S j) (a := 48) q9 (by decide) rfl)))], rfl⟩
        · refine AW.run X R_digitsEnd_d 10 2 rfl ?_
          refine AW.callV (As := [.int (nI j)]) X (R_signAt_m S tl j n hv hl hn (by omega)) cb_R_70 rfl rfl R_signAt_im R_signAt_se rfl ⟨Nat.le_of_ble_eq_true rfl, Nat.le_of_ble_eq_true rfl⟩ (Nat.le_of_ble_eq_true rfl) ⟨Nat.le_of_ble_eq_true rfl, Nat.le_of_ble_eq_true rfl⟩ (R_digitsEnd_d.d 12 rfl) (fun v h' q => ?_)
          obtain ⟨rfl, rfl⟩ := q
          refine AW.run X R_digitsEnd_d 13 1 rfl ?_
          refine AW.icmp_gt X (R_digitsEnd_d.d 14 rfl) (fun q14 => ?_) (fun q14 => ?_)
          · refine AW.run X R_digitsEnd_d 17 1 rfl ?_
            exact AW.iret X (R_digitsEnd_d.d 18 rfl) (Nat.le_of_ble_eq_true rfl) (Nat.le_of_ble_eq_true rfl) ⟨by rw [← e1, de_0 (fun z => absurd z.2.2 (Nat.not_le.mpr (cgt q14)))], rfl⟩
          · refine AW.run X R_digitsEnd_d 15 1 rfl ?_
            refine AW.goto X (R_digitsEnd_d.d 16 rfl) ?_
            rw [nI_o1]
            exact ih (j + 1) (by omega) (by rw [← e1]; exact (de_1 ⟨hj, cle (b := sgS S j) (a := 48) q9 (by decide) rfl, cle q14⟩).symm) (by omega)
  exact L2 (e + 1) k hk rfl (by omega)

set_option maxHeartbeats 4000000 in
set_option maxRecDepth 100000 in
theorem R_wholePart_m {l : Launch} {G : ax_G} (S : x_S) (tl : List va_E) (a e n : Nat) (hv : S.2.2.2 = .ref 133) (hl : S.1 7 = nI n) (hn : n ≤ 8192) (ha : a ≤ e) (he : e ≤ n) (hd : ∀ j, a ≤ j → j < e → 48 ≤ (sgS S) j ∧ (sgS S) j ≤ 57) :
    AM l VV G R_wholePart_y R_wholePart_c 5 (some .int) 1 0 0 [.ref 141, .int (nI a), .int (nI e)] (x_hC S tl) (fun v h' => v = some (.int (nI (wpr (sgS S) a (e - a)))) ∧ h' = x_hC S tl) := by
  refine AM.of (pl := pl_R) (by decide) v_good fl_R_ok kl_R_ok nofun (Nat.le_of_ble_eq_true rfl) ?_
  intro p0v e0v s0v m0v args below meth c0v X
  refine AW.run X R_wholePart_d 0 4 rfl ?_
  have L5 : ∀ (t2 i : Nat), a + i ≤ e → e - (a + i) < t2 → AW p0v l e0v (ax_R 1 0 0) s0v m0v args below meth c0v VV G 5 (x_hC S tl) 0 0 (MQ below (ax_Q VV G (fun v h' => v = some (.int (nI (wpr (sgS S) a (e - a)))) ∧ h' = x_hC S tl)) args s0v 0 0 (fun q => G.bs ≤ q)) 5 [(4, .int (nI (a + i))), (3, .int (nI (wpr (sgS S) a i))), (0, .ref 141), (1, .int (nI a)), (2, .int (nI e))] [] := by
    intro t2
    induction t2 with
    | zero => intro i h1 h2; exact absurd h2 (by omega)
    | succ t2 ih =>
      intro i h1 h2
      refine AW.run X R_wholePart_d 4 2 rfl ?_
      refine AW.icmp_ge X (R_wholePart_d.d 6 rfl) (fun q6 => ?_) (fun q6 => ?_)
      · refine AW.run X R_wholePart_d 21 1 rfl ?_
        exact AW.iret X (R_wholePart_d.d 22 rfl) (Nat.le_of_ble_eq_true rfl) (Nat.le_of_ble_eq_true rfl) ⟨by rw [show i = e - a by have := cge q6; omega], rfl⟩
      · have hj : a + i < e := clt q6
        refine AW.run X R_wholePart_d 7 5 rfl ?_
        refine AW.callV (As := [.int (nI (a + i))]) X (R_signAt_m S tl (a + i) n hv hl hn (by omega)) cb_R_70 rfl rfl R_signAt_im R_signAt_se rfl ⟨Nat.le_of_ble_eq_true rfl, Nat.le_of_ble_eq_true rfl⟩ (Nat.le_of_ble_eq_true rfl) ⟨Nat.le_of_ble_eq_true rfl, Nat.le_of_ble_eq_true rfl⟩ (R_wholePart_d.d 12 rfl) (fun v h' q => ?_)
        obtain ⟨rfl, rfl⟩ := q
        refine AW.run X R_wholePart_d 13 4 rfl ?_
        have hs := hd (a + i) (by omega) hj
        have hw := wpr_le (sgS S) a i
        have hb := sgS_lt S (a + i)
        rw [wp_s (w := wpr (sgS S) a i) (s := sgS S (a + i)) hs.1]
        refine AW.callS (As := [.int (nI (wpr (sgS S) a i * 10 + (sgS S (a + i) - 48))), .int (nI 16384)]) X (JMath_min1_m _ _) cb_R_131 JMath_min1_st rfl ⟨Nat.le_of_ble_eq_true rfl, Nat.le_of_ble_eq_true rfl⟩ (Nat.le_of_ble_eq_true rfl) ⟨Nat.le_of_ble_eq_true rfl, Nat.le_of_ble_eq_true rfl⟩ (R_wholePart_d.d 17 rfl) (fun v h' q => ?_)
        obtain ⟨rfl, rfl⟩ := q
        rw [min_i (a := wpr (sgS S) a i * 10 + (sgS S (a + i) - 48)) (b := 16384) (by omega) (by decide)]
        refine AW.run X R_wholePart_d 18 2 rfl ?_
        refine AW.goto X (R_wholePart_d.d 20 rfl) ?_
        rw [nI_o1]
        exact ih (i + 1) (by omega) (by omega)
  exact L5 (e + 1) 0 (by omega) (by omega)

set_option maxHeartbeats 4000000 in
set_option maxRecDepth 100000 in
theorem R_fractionPart_m {l : Launch} {G : ax_G} (S : x_S) (tl : List va_E) (a e n : Nat) (hv : S.2.2.2 = .ref 133) (hl : S.1 7 = nI n) (hn : n ≤ 8192) (ha : a ≤ e + 1) (he : e ≤ n) (hd : ∀ j, a ≤ j → j < e → 48 ≤ (sgS S) j ∧ (sgS S) j ≤ 57) :
    AM l VV G R_fractionPart_y R_fractionPart_c 6 (some .int) 1 0 0 [.ref 141, .int (nI a), .int (nI e)] (x_hC S tl) (fun v h' => v = some (.int (nI (fpr (sgS S) a e 9 * 65536 / 1000000000))) ∧ h' = x_hC S tl) := by
  refine AM.of (pl := pl_R) (by decide) v_good fl_R_ok kl_R_ok nofun (Nat.le_of_ble_eq_true rfl) ?_
  intro p0v e0v s0v m0v args below meth c0v X
  refine AW.run X R_fractionPart_d 0 4 rfl ?_
  have L5 : ∀ (t2 i : Nat), i ≤ 9 → 9 - i < t2 → AW p0v l e0v (ax_R 1 0 0) s0v m0v args below meth c0v VV G 6 (x_hC S tl) 0 0 (MQ below (ax_Q VV G (fun v h' => v = some (.int (nI (fpr (sgS S) a e 9 * 65536 / 1000000000))) ∧ h' = x_hC S tl)) args s0v 0 0 (fun q => G.bs ≤ q)) 5 [(5, .int (nI (a + i))), (3, .long (lZ (fpr (sgS S) a e i : Nat))), (0, .ref 141), (1, .int (nI a)), (2, .int (nI e))] [] := by
    intro t2
    induction t2 with
    | zero => intro i h1 h2; exact absurd h2 (by omega)
    | succ t2 ih =>
      intro i h1 h2
      refine AW.run X R_fractionPart_d 4 4 rfl ?_
      refine AW.icmp_ge X (R_fractionPart_d.d 8 rfl) (fun q8 => ?_) (fun q8 => ?_)
      · refine AW.run X R_fractionPart_d 27 4 rfl ?_
        refine AW.ldiv X (R_fractionPart_d.d 31 rfl) (by decide) ?_
        refine AW.run X R_fractionPart_d 32 1 rfl ?_
        exact AW.iret X (R_fractionPart_d.d 33 rfl) (Nat.le_of_ble_eq_true rfl) (Nat.le_of_ble_eq_true rfl) ⟨by rw [show i = 9 by have := cge (a := a + i) (b := a + 9) q8 rfl (nI_add a 9); omega, fr_e (Nat.lt_of_lt_of_le (fpr_lt hd 9) (by decide))], rfl⟩
      · have hi : i < 9 := by
          have := clt (a := a + i) (b := a + 9) q8 rfl (nI_add a 9)
          omega
        refine AW.run X R_fractionPart_d 9 5 rfl ?_
        have J38 : ∀ (z : Int32), z = nI (if a + i < e then sgS S (a + i) - 48 else 0) → AW p0v l e0v (ax_R 1 0 0) s0v m0v args below meth c0v VV G 6 (x_hC S tl) 0 0 (MQ below (ax_Q VV G (fun v h' => v = some (.int (nI (fpr (sgS S) a e 9 * 65536 / 1000000000))) ∧ h' = x_hC S tl)) args s0v 0 0 (fun q => G.bs ≤ q)) 38 [(5, .int (nI (a + i))), (3, .long (lZ (fpr (sgS S) a e i : Nat))), (0, .ref 141), (1, .int (nI a)), (2, .int (nI e))] [.int z, .long ((lZ (fpr (sgS S) a e i : Nat)) * (10))] := by
          intro z hz; subst hz
          refine AW.run X R_fractionPart_d 22 2 rfl ?_
          rw [fr_s (F := fpr (sgS S) a e i) (d := (if a + i < e then sgS S (a + i) - 48 else 0)) (by split; exact Nat.lt_of_le_of_lt (Nat.sub_le _ _) (Nat.lt_trans (sgS_lt S _) (by decide)); decide)]
          refine AW.run X R_fractionPart_d 24 2 rfl ?_
          refine AW.goto X (R_fractionPart_d.d 26 rfl) ?_
          rw [nI_o1]
          exact ih (i + 1) (by omega) (by omega)
        refine AW.icmp_ge X (R_fractionPart_d.d 14 rfl) (fun q14 => ?_) (fun q14 => ?_)
        · have hj : ¬a + i < e := Nat.not_lt.mpr (cge q14)
          refine AW.run X R_fractionPart_d 21 1 rfl ?_
          exact J38 _ (by rw [if_neg hj]; rfl)
        · have hj : a + i < e := clt q14
          have hs := hd (a + i) (by omega) hj
          have hb := sgS_lt S (a + i)
          refine AW.run X R_fractionPart_d 15 2 rfl ?_
          refine AW.callV (As := [.int (nI (a + i))]) X (R_signAt_m S tl (a + i) n hv hl hn (by omega)) cb_R_70 rfl rfl R_signAt_im R_signAt_se rfl ⟨Nat.le_of_ble_eq_true rfl, Nat.le_of_ble_eq_true rfl⟩ (Nat.le_of_ble_eq_true rfl) ⟨Nat.le_of_ble_eq_true rfl, Nat.le_of_ble_eq_true rfl⟩ (R_fractionPart_d.d 17 rfl) (fun v h' q => ?_)
          obtain ⟨rfl, rfl⟩ := q
          refine AW.run X R_fractionPart_d 18 2 rfl ?_
          refine AW.goto X (R_fractionPart_d.d 20 rfl) ?_
          exact J38 _ (by rw [if_pos hj]; exact pk_sub (b := 48) hs.1)
  exact L5 10 0 (by omega) (by omega)

set_option maxHeartbeats 4000000 in
set_option maxRecDepth 100000 in
theorem R_readNumeral_m {l : Launch} {G : ax_G} (S : x_S) (tl : List va_E) (s e n : Nat) (hv : S.2.2.2 = .ref 133) (hl : S.1 7 = nI n) (hn : n ≤ 8192) (hs : s < e) (he : e ≤ n) :
    AM l VV G R_readNumeral_y R_readNumeral_c 10 (some .int) 2 0 0 [.ref 141, .int (nI s), .int (nI e)] (x_hC S tl) (fun v h' => v = some (.int (iZ (nr (sgS S) s e))) ∧ h' = (if nr (sgS S) s e = -1 then x_hC (x_i S 8 (iZ (nv (sgS S) s e))) tl else x_hC S tl)) := by
  refine AM.of (pl := pl_R) (by decide) v_good fl_R_ok kl_R_ok nofun (Nat.le_of_ble_eq_true rfl) ?_
  intro p0v e0v s0v m0v args below meth c0v X
  have hb := sgS_lt S s
  have hf := nf_ge (sgS S) s
  have hp1 : nf (sgS S) s ≤ npt (sgS S) s e := de_ge _ _ _
  have hp2 : npt (sgS S) s e ≤ e := de_le (by omega)
  have hl0 := nla_le (sg := (sgS S)) (s := s) hp2
  refine AW.run X R_readNumeral_d 0 2 rfl ?_
  refine AW.callV (As := [.int (nI s)]) X (R_signAt_m S tl s n hv hl hn (by omega)) cb_R_70 rfl rfl R_signAt_im R_signAt_se rfl ⟨Nat.le_of_ble_eq_true rfl, Nat.le_of_ble_eq_true rfl⟩ (Nat.le_of_ble_eq_true rfl) ⟨Nat.le_of_ble_eq_true rfl, Nat.le_of_ble_eq_true rfl⟩ (R_readNumeral_d.d 2 rfl) (fun v h' q => ?_)
  obtain ⟨rfl, rfl⟩ := q
  refine AW.run X R_readNumeral_d 3 1 rfl ?_
  have J37 : ∀ (z : Int32), z = nI (nf (sgS S) s) → AW p0v l e0v (ax_R 2 0 0) s0v m0v args below meth c0v VV G 10 (x_hC S tl) 0 0 (MQ below (ax_Q VV G (fun v h' => v = some (.int (iZ (nr (sgS S) s e))) ∧ h' = (if nr (sgS S) s e = -1 then x_hC (x_i S 8 (iZ (nv (sgS S) s e))) tl else x_hC S tl))) args s0v 0 0 (fun q => G.bs ≤ q)) 37 [(0, .ref 141), (1, .int (nI s)), (2, .int (nI e))] [.int z] := by
    intro z hz; subst hz
    refine AW.run X R_readNumeral_d 21 4 rfl ?_
    refine AW.callV (As := [.int (nI (nf (sgS S) s)), .int (nI e)]) X (R_digitsEnd_m S tl (nf (sgS S) s) e n hv hl hn (by omega) he) cb_R_121 rfl rfl R_digitsEnd_im R_digitsEnd_se rfl ⟨Nat.le_of_ble_eq_true rfl, Nat.le_of_ble_eq_true rfl⟩ (Nat.le_of_ble_eq_true rfl) ⟨Nat.le_of_ble_eq_true rfl, Nat.le_of_ble_eq_true rfl⟩ (R_readNumeral_d.d 25 rfl) (fun v h' q => ?_)
    obtain ⟨rfl, rfl⟩ := q
    rw [show de (sgS S) e (nf (sgS S) s) = npt (sgS S) s e from rfl]
    refine AW.run X R_readNumeral_d 26 3 rfl ?_
    have J91 : ∀ (z : Int32), z = nI (nla (sgS S) s e) → AW p0v l e0v (ax_R 2 0 0) s0v m0v args below meth c0v VV G 10 (x_hC S tl) 0 0 (MQ below (ax_Q VV G (fun v h' => v = some (.int (iZ (nr (sgS S) s e))) ∧ h' = (if nr (sgS S) s e = -1 then x_hC (x_i S 8 (iZ (nv (sgS S) s e))) tl else x_hC S tl))) args s0v 0 0 (fun q => G.bs ≤ q)) 91 [(5, .int (nI (npt (sgS S) s e))), (4, .int (nI (nf (sgS S) s))), (0, .ref 141), (1, .int (nI s)), (2, .int (nI e))] [.int z] := by
      intro z hz; subst hz
      refine AW.run X R_readNumeral_d 49 3 rfl ?_
      refine AW.icmp_eq X (R_readNumeral_d.d 52 rfl) (fun q52 => ?_) (fun q52 => ?_)
      · refine AW.run X R_readNumeral_d 61 1 rfl ?_
        exact AW.iret X (R_readNumeral_d.d 62 rfl) (Nat.le_of_ble_eq_true rfl) (Nat.le_of_ble_eq_true rfl) ⟨by rw [nr_4 (fun z => z (Or.inl ((nI_eq (by omega) (by omega)).mp q52)))]; rfl, by rw [nr_4 (fun z => z (Or.inl ((nI_eq (by omega) (by omega)).mp q52)))]; rfl⟩
      · refine AW.run X R_readNumeral_d 53 4 rfl ?_
        refine AW.icmp_eq X (R_readNumeral_d.d 57 rfl) (fun q57 => ?_) (fun q57 => ?_)
        · refine AW.run X R_readNumeral_d 61 1 rfl ?_
          exact AW.iret X (R_readNumeral_d.d 62 rfl) (Nat.le_of_ble_eq_true rfl) (Nat.le_of_ble_eq_true rfl) ⟨by rw [nr_4 (fun z => z (Or.inr (Or.inl ((nI_eq (by omega) (by omega)).mp (by rw [← nI_o1]; exact q57)))))]; rfl, by rw [nr_4 (fun z => z (Or.inr (Or.inl ((nI_eq (by omega) (by omega)).mp (by rw [← nI_o1]; exact q57)))))]; rfl⟩
        · refine AW.run X R_readNumeral_d 58 2 rfl ?_
          refine AW.icmp_eq X (R_readNumeral_d.d 60 rfl) (fun q60 => ?_) (fun q60 => ?_)
          · have hla : nla (sgS S) s e = e := (nI_eq (by omega) (by omega)).mp q60
            have hN : isn (sgS S) s e := fun z => z.elim (fun y => q52 (by rw [y])) (fun y => y.elim (fun y => q57 (by rw [nI_o1, y])) (fun y => y hla))
            have hw := nwh_le (sgS S) s e
            have hfr := nfr_lt hN
            refine AW.run X R_readNumeral_d 63 3 rfl ?_
            refine AW.callV (As := [.int (nI (nf (sgS S) s)), .int (nI (npt (sgS S) s e))]) X (R_wholePart_m S tl (nf (sgS S) s) (npt (sgS S) s e) n hv hl hn hp1 (by omega) (fun j a b => de_dg a b)) cb_R_124 rfl rfl R_wholePart_im R_wholePart_se rfl ⟨Nat.le_of_ble_eq_true rfl, Nat.le_of_ble_eq_true rfl⟩ (Nat.le_of_ble_eq_true rfl) ⟨Nat.le_of_ble_eq_true rfl, Nat.le_of_ble_eq_true rfl⟩ (R_readNumeral_d.d 66 rfl) (fun v h' q => ?_)
            obtain ⟨rfl, rfl⟩ := q
            refine AW.run X R_readNumeral_d 67 3 rfl ?_
            refine AW.icmp_le X (R_readNumeral_d.d 70 rfl) (fun q70 => ?_) (fun q70 => ?_)
            · refine AW.run X R_readNumeral_d 73 8 rfl ?_
              rw [nI_o1]
              refine AW.callV (As := [.int (nI (npt (sgS S) s e + 1)), .int (nI e)]) X (R_fractionPart_m S tl (npt (sgS S) s e + 1) e n hv hl hn (by omega) he (isn_dg hla)) cb_R_128 rfl rfl R_fractionPart_im R_fractionPart_se rfl ⟨Nat.le_of_ble_eq_true rfl, Nat.le_of_ble_eq_true rfl⟩ (Nat.le_of_ble_eq_true rfl) ⟨Nat.le_of_ble_eq_true rfl, Nat.le_of_ble_eq_true rfl⟩ (R_readNumeral_d.d 81 rfl) (fun v h' q => ?_)
              obtain ⟨rfl, rfl⟩ := q
              refine AW.run X R_readNumeral_d 82 5 rfl ?_
              refine AW.callV (As := [.int (nI s)]) X (R_signAt_m S tl s n hv hl hn (by omega)) cb_R_70 rfl rfl R_signAt_im R_signAt_se rfl ⟨Nat.le_of_ble_eq_true rfl, Nat.le_of_ble_eq_true rfl⟩ (Nat.le_of_ble_eq_true rfl) ⟨Nat.le_of_ble_eq_true rfl, Nat.le_of_ble_eq_true rfl⟩ (R_readNumeral_d.d 87 rfl) (fun v h' q => ?_)
              obtain ⟨rfl, rfl⟩ := q
              refine AW.run X R_readNumeral_d 88 1 rfl ?_
              refine AW.icmp_ne X (R_readNumeral_d.d 89 rfl) (fun q89 => ?_) (fun q89 => ?_)
              · refine AW.run X R_readNumeral_d 93 1 rfl ?_
                refine AW.cp8 X (R_readNumeral_d.d 94 rfl) ?_
                refine AW.run X R_readNumeral_d 95 1 rfl ?_
                exact AW.iret X (R_readNumeral_d.d 96 rfl) (Nat.le_of_ble_eq_true rfl) (Nat.le_of_ble_eq_true rfl) ⟨by rw [nr_m hN (by have := cge (a := 16383) (b := nwh (sgS S) s e) q70 (by decide) rfl; omega)]; rfl, by rw [nr_m hN (by have := cge (a := 16383) (b := nwh (sgS S) s e) q70 (by decide) rfl; omega), if_pos rfl]; exact congrArg (fun z => x_hC (x_i S 8 z) tl) (nv_p (fun z => q89 (by rw [z]; rfl)))⟩
              · refine AW.run X R_readNumeral_d 90 2 rfl ?_
                refine AW.goto X (R_readNumeral_d.d 92 rfl) ?_
                refine AW.cp8 X (R_readNumeral_d.d 94 rfl) ?_
                refine AW.run X R_readNumeral_d 95 1 rfl ?_
                exact AW.iret X (R_readNumeral_d.d 96 rfl) (Nat.le_of_ble_eq_true rfl) (Nat.le_of_ble_eq_true rfl) ⟨by rw [nr_m hN (by have := cge (a := 16383) (b := nwh (sgS S) s e) q70 (by decide) rfl; omega)]; rfl, by rw [nr_m hN (by have := cge (a := 16383) (b := nwh (sgS S) s e) q70 (by decide) rfl; omega), if_pos rfl]; exact congrArg (fun z => x_hC (x_i S 8 z) tl) (nv_n ((nI_eq (b := 45) (by omega) (by decide)).mp q89))⟩
            · refine AW.run X R_readNumeral_d 71 1 rfl ?_
              exact AW.iret X (R_readNumeral_d.d 72 rfl) (Nat.le_of_ble_eq_true rfl) (Nat.le_of_ble_eq_true rfl) ⟨by rw [nr_3 hN (clt (a := 16383) (b := nwh (sgS S) s e) q70 (by decide) rfl)]; rfl, by rw [nr_3 hN (clt (a := 16383) (b := nwh (sgS S) s e) q70 (by decide) rfl)]; rfl⟩
          · refine AW.run X R_readNumeral_d 61 1 rfl ?_
            exact AW.iret X (R_readNumeral_d.d 62 rfl) (Nat.le_of_ble_eq_true rfl) (Nat.le_of_ble_eq_true rfl) ⟨by rw [nr_4 (fun z => z (Or.inr (Or.inr (fun y => q60 (by rw [y])))))]; rfl, by rw [nr_4 (fun z => z (Or.inr (Or.inr (fun y => q60 (by rw [y])))))]; rfl⟩
    refine AW.icmp_ge X (R_readNumeral_d.d 29 rfl) (fun q29 => ?_) (fun q29 => ?_)
    · refine AW.run X R_readNumeral_d 37 3 rfl ?_
      refine AW.if_eq X (R_readNumeral_d.d 40 rfl) (fun q40 => ?_) (fun q40 => absurd rfl q40)
      refine AW.run X R_readNumeral_d 48 1 rfl ?_
      refine AW.pk [1, 2, 3, 4, 5] rfl ?_
      exact J91 _ (by rw [show nla (sgS S) s e = npt (sgS S) s e from if_neg (fun z => by have := cge q29; omega)])
    · have hp3 : npt (sgS S) s e < e := clt q29
      have hb2 := sgS_lt S (npt (sgS S) s e)
      refine AW.run X R_readNumeral_d 30 2 rfl ?_
      refine AW.callV (As := [.int (nI (npt (sgS S) s e))]) X (R_signAt_m S tl (npt (sgS S) s e) n hv hl hn (by omega)) cb_R_70 rfl rfl R_signAt_im R_signAt_se rfl ⟨Nat.le_of_ble_eq_true rfl, Nat.le_of_ble_eq_true rfl⟩ (Nat.le_of_ble_eq_true rfl) ⟨Nat.le_of_ble_eq_true rfl, Nat.le_of_ble_eq_true rfl⟩ (R_readNumeral_d.d 32 rfl) (fun v h' q => ?_)
      obtain ⟨rfl, rfl⟩ := q
      refine AW.run X R_readNumeral_d 33 1 rfl ?_
      refine AW.icmp_ne X (R_readNumeral_d.d 34 rfl) (fun q34 => ?_) (fun q34 => ?_)
      · refine AW.run X R_readNumeral_d 37 3 rfl ?_
        refine AW.if_eq X (R_readNumeral_d.d 40 rfl) (fun q40 => ?_) (fun q40 => absurd rfl q40)
        refine AW.run X R_readNumeral_d 48 1 rfl ?_
        refine AW.pk [1, 2, 3, 4, 5] rfl ?_
        exact J91 _ (by rw [show nla (sgS S) s e = npt (sgS S) s e from if_neg (fun z => q34 (by rw [show sgS S (npt (sgS S) s e) = 46 from z.2]; rfl))])
      · refine AW.run X R_readNumeral_d 35 1 rfl ?_
        refine AW.goto X (R_readNumeral_d.d 36 rfl) ?_
        refine AW.run X R_readNumeral_d 38 2 rfl ?_
        refine AW.if_eq X (R_readNumeral_d.d 40 rfl) (fun q40 => absurd q40 (by decide)) (fun q40 => ?_)
        refine AW.run X R_readNumeral_d 41 5 rfl ?_
        rw [nI_o1]
        refine AW.callV (As := [.int (nI (npt (sgS S) s e + 1)), .int (nI e)]) X (R_digitsEnd_m S tl (npt (sgS S) s e + 1) e n hv hl hn (by omega) he) cb_R_121 rfl rfl R_digitsEnd_im R_digitsEnd_se rfl ⟨Nat.le_of_ble_eq_true rfl, Nat.le_of_ble_eq_true rfl⟩ (Nat.le_of_ble_eq_true rfl) ⟨Nat.le_of_ble_eq_true rfl, Nat.le_of_ble_eq_true rfl⟩ (R_readNumeral_d.d 46 rfl) (fun v h' q => ?_)
        obtain ⟨rfl, rfl⟩ := q
        refine AW.goto X (R_readNumeral_d.d 47 rfl) ?_
        refine AW.pk [1, 2, 3, 4, 5] rfl ?_
        exact J91 _ (by rw [show nla (sgS S) s e = de (sgS S) e (npt (sgS S) s e + 1) from if_pos ⟨hp3, (nI_eq (b := 46) (by omega) (by decide)).mp q34⟩])
  refine AW.icmp_eq X (R_readNumeral_d.d 4 rfl) (fun q4 => ?_) (fun q4 => ?_)
  · refine AW.run X R_readNumeral_d 10 1 rfl ?_
    refine AW.goto X (R_readNumeral_d.d 11 rfl) ?_
    refine AW.run X R_readNumeral_d 13 2 rfl ?_
    refine AW.if_eq X (R_readNumeral_d.d 15 rfl) (fun q15 => absurd q15 (by decide)) (fun q15 => ?_)
    refine AW.run X R_readNumeral_d 16 3 rfl ?_
    refine AW.goto X (R_readNumeral_d.d 19 rfl) ?_
    refine AW.pk [1, 2, 3] rfl ?_
    exact J37 _ (by rw [nI_o1, show nf (sgS S) s = s + 1 from if_pos (Or.inl ((nI_eq (b := 43) (by omega) (by decide)).mp q4))])
  · refine AW.run X R_readNumeral_d 5 2 rfl ?_
    refine AW.callV (As := [.int (nI s)]) X (R_signAt_m S tl s n hv hl hn (by omega)) cb_R_70 rfl rfl R_signAt_im R_signAt_se rfl ⟨Nat.le_of_ble_eq_true rfl, Nat.le_of_ble_eq_true rfl⟩ (Nat.le_of_ble_eq_true rfl) ⟨Nat.le_of_ble_eq_true rfl, Nat.le_of_ble_eq_true rfl⟩ (R_readNumeral_d.d 7 rfl) (fun v h' q => ?_)
    obtain ⟨rfl, rfl⟩ := q
    refine AW.run X R_readNumeral_d 8 1 rfl ?_
    refine AW.icmp_ne X (R_readNumeral_d.d 9 rfl) (fun q9 => ?_) (fun q9 => ?_)
    · refine AW.run X R_readNumeral_d 12 3 rfl ?_
      refine AW.if_eq X (R_readNumeral_d.d 15 rfl) (fun q15 => ?_) (fun q15 => absurd rfl q15)
      refine AW.run X R_readNumeral_d 20 1 rfl ?_
      refine AW.pk [1, 2, 3] rfl ?_
      exact J37 _ (by rw [show nf (sgS S) s = s from if_neg (fun z => z.elim (fun y => q4 (by rw [show sgS S s = 43 from y]; rfl)) (fun y => q9 (by rw [show sgS S s = 45 from y]; rfl)))])
    · refine AW.run X R_readNumeral_d 10 1 rfl ?_
      refine AW.goto X (R_readNumeral_d.d 11 rfl) ?_
      refine AW.run X R_readNumeral_d 13 2 rfl ?_
      refine AW.if_eq X (R_readNumeral_d.d 15 rfl) (fun q15 => absurd q15 (by decide)) (fun q15 => ?_)
      refine AW.run X R_readNumeral_d 16 3 rfl ?_
      refine AW.goto X (R_readNumeral_d.d 19 rfl) ?_
      refine AW.pk [1, 2, 3] rfl ?_
      exact J37 _ (by rw [nI_o1, show nf (sgS S) s = s + 1 from if_pos (Or.inr ((nI_eq (b := 45) (by omega) (by decide)).mp q9))])

