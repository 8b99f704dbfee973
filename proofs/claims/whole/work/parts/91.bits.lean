/-! BITS of samples -/
theorem bv_bit (b : BitVec 32) (s : Nat) (h : s < 8) : ((b &&& 255#32).sshiftRight s) &&& 1#32 = (b.sshiftRight s) &&& 1#32 := by
  apply BitVec.eq_of_getLsbD_eq
  intro i hi
  rw [BitVec.getLsbD_and, BitVec.getLsbD_and, BitVec.getLsbD_one]
  by_cases z : i = 0
  · subst z
    rw [BitVec.getLsbD_sshiftRight, BitVec.getLsbD_sshiftRight]
    have : (255#32).getLsbD s = true := by
      have : ∀ s, s < 8 → (255#32).getLsbD s = true := by decide
      exact this s h
    simp [this, show s < 32 by omega]
  · simp [z]
theorem i32_bit (b : Int32) (s : Nat) (h : s < 8) : ((b &&& 255) >>> (nI s &&& 31)) &&& 1 = (b >>> (nI s &&& 31)) &&& 1 := by
  have hs : ∀ s, s < 8 → ((nI s &&& 31).toBitVec.smod 32).toNat = s := by decide
  apply Int32.toBitVec_inj.mp
  rw [Int32.toBitVec_and, Int32.toBitVec_and, Int32.toBitVec_shiftRight, Int32.toBitVec_shiftRight, Int32.toBitVec_and]
  rw [BitVec.sshiftRight_eq', BitVec.sshiftRight_eq', hs s h]
  exact bv_bit _ s h
theorem i32_01 (x : Int32) : x &&& 1 = 0 ∨ x &&& 1 = 1 := by
  have : x.toBitVec &&& 1#32 = 0#32 ∨ x.toBitVec &&& 1#32 = 1#32 := by
    rw [BitVec.and_one_eq_setWidth_ofBool_getLsbD]
    cases x.toBitVec.getLsbD 0 <;> simp
  rcases this with h | h
  · exact Or.inl (Int32.toBitVec_inj.mp h)
  · exact Or.inr (Int32.toBitVec_inj.mp h)
/-- bit p of a row of bytes -/
def zbt (b : Nat → Int32) (p : Nat) : Int := ((b (p / 8) >>> (nI (7 - p % 8) &&& 31)) &&& 1).toInt
theorem zbt_b (b : Nat → Int32) (p : Nat) : 0 ≤ zbt b p ∧ zbt b p ≤ 1 := by
  unfold zbt
  rcases i32_01 (b (p / 8) >>> (nI (7 - p % 8) &&& 31)) with h | h <;> rw [h] <;> decide
theorem zbt_i (b : Nat → Int32) (p : Nat) : (b (p / 8) >>> (nI (7 - p % 8) &&& 31)) &&& 1 = iZ (zbt b p) := ti_i _
theorem bv_dbl (x : BitVec 64) : x <<< (1 : Nat) = x + x := by
  apply BitVec.eq_of_toNat_eq
  rw [BitVec.toNat_shiftLeft, BitVec.toNat_add, Nat.shiftLeft_eq]
  congr 1
  omega
theorem l_dbl (v : Int) : lZ v <<< ((Int32.ofInt 1).toInt64 &&& 63) = lZ (v * 2) := by
  rw [show v * 2 = v + v by omega, ← lZ_add]
  apply Int64.toBitVec_inj.mp
  rw [Int64.toBitVec_shiftLeft, Int64.toBitVec_add, show (((Int32.ofInt 1).toInt64 &&& 63).toBitVec.smod 64) = 1#64 by decide]
  show (lZ v).toBitVec <<< (1#64).toNat = _
  rw [show (1#64).toNat = 1 from rfl]
  exact bv_dbl _
theorem l_or1 (v : Int) : lZ (v * 2) ||| lZ 1 = lZ (v * 2 + 1) := by
  rw [← lZ_add]
  apply Int64.toBitVec_inj.mp
  rw [Int64.toBitVec_or, Int64.toBitVec_add]
  refine (BitVec.add_eq_or_of_and_eq_zero _ _ ?_).symm
  rw [show v * 2 = v + v by omega, ← lZ_add, Int64.toBitVec_add, ← bv_dbl, show (lZ 1).toBitVec = 1#64 by decide, BitVec.and_one_eq_setWidth_ofBool_getLsbD]
  simp
theorem sm_s {v b : Int} (hb : 0 ≤ b ∧ b ≤ 1) : (lZ v <<< ((Int32.ofInt 1).toInt64 &&& 63)) ||| (iZ b).toInt64 = lZ (v * 2 + b) := by
  rw [l_dbl, iZ_l ⟨by omega, by omega⟩]
  have : b = 0 ∨ b = 1 := by omega
  rcases this with h | h
  · rw [h, Int.add_zero]
    apply Int64.toBitVec_inj.mp
    rw [Int64.toBitVec_or, show (lZ 0).toBitVec = 0#64 by decide]
    simp
  · rw [h]; exact l_or1 v
theorem k8_d {k : Nat} (h : k < 2 ^ 31) : (lZ k / (8 : Int64)).toInt32 = nI (k / 8) := by
  rw [show (8 : Int64) = lZ 8 from rfl, lZ_div ⟨by omega, by omega⟩ ⟨by decide, by decide⟩ (Or.inr (by decide)), lZ_i, iZ_n]
  congr 1
theorem k8_r {k : Nat} (h : k < 2 ^ 31) : ((7 : Int64) - (lZ k - lZ k / (8 : Int64) * (8 : Int64))).toInt32 = nI (7 - k % 8) := by
  rw [show (8 : Int64) = lZ 8 from rfl, show (7 : Int64) = lZ 7 from rfl, lZ_div ⟨by omega, by omega⟩ ⟨by decide, by decide⟩ (Or.inr (by decide)), lZ_mul, lZ_sub, lZ_sub, lZ_i, iZ_n, show (k : Int).tdiv 8 = ((k / 8 : Nat) : Int) from rfl]
  congr 1
  omega
set_option maxHeartbeats 4000000 in
set_option maxRecDepth 100000 in
theorem M_sampleAt_m {l : Launch} {G : ax_G} (S : x_S) (M : x_M) (tl : List va_E) (f a wd : Nat) (hf : f < 24) (ha : (a + 1) * wd ≤ 65536) (hw : wd ≤ 16) :
    AM l VV G M_sampleAt_y M_sampleAt_c 9 (some .long) 1 0 0 [.ref 153, .int (nI f), .long (lZ (a : Nat)), .int (nI wd)] (x_hM S M tl) (fun v h' => v = some (.long (lZ (zsm (zbt (fun j => M.2.1 9 (8192 * f + j))) (a * wd) wd * 65536))) ∧ h' = x_hM S M tl) := by
  refine AM.of (pl := pl_M) (by decide) v_good fl_M_ok kl_M_ok nofun (Nat.le_of_ble_eq_true rfl) ?_
  intro p0v e0v s0v m0v args below meth c0v X
  have ha2 : a * wd + wd ≤ 65536 := by rw [← Nat.succ_mul]; exact ha
  refine AW.run X M_sampleAt_d 0 5 rfl ?_
  refine AW.run X M_sampleAt_d 5 1 rfl ?_
  rw [nl_l (by omega), lZ_mul, show (a : Int) * (wd : Int) = (((a * wd : Nat) + 0 : Nat) : Int) by rw [Nat.add_zero]; exact (Int.natCast_mul a wd).symm]
  refine AW.run X M_sampleAt_d 6 1 rfl ?_
  have L10 : ∀ (t2 j : Nat), j ≤ wd → wd - j < t2 → AW p0v l e0v (ax_R 1 0 0) s0v m0v args below meth c0v VV G 9 (x_hM S M tl) 0 0 (MQ below (ax_Q VV G (fun v h' => v = some (.long (lZ (zsm (zbt (fun j => M.2.1 9 (8192 * f + j))) (a * wd) wd * 65536))) ∧ h' = x_hM S M tl)) args s0v 0 0 (fun q => G.bs ≤ q)) 10 [(7, .long (lZ (((a * wd : Nat) + j : Nat) : Int))), (5, .long (lZ (zsm (zbt (fun j => M.2.1 9 (8192 * f + j))) (a * wd) j))), (0, .ref 153), (1, .int (nI f)), (2, .long (lZ (a : Nat))), (4, .int (nI wd))] [] := by
    intro t2
    induction t2 with
    | zero => intro j a1 a2; exact absurd a2 (by omega)
    | succ t2 ih =>
      intro j a1 a2
      refine AW.run X M_sampleAt_d 7 6 rfl ?_
      refine AW.run X M_sampleAt_d 13 1 rfl ?_
      rw [show Int64.ofNat ((1 : Fin 2) : Nat) = lZ 1 from lZ_c1, lZ_add, nl_l (by omega), lZ_mul, show ((a : Int) + 1) * (wd : Int) = (((a * wd + wd : Nat)) : Int) by rw [← Nat.succ_mul]; exact (Int.natCast_mul (a + 1) wd).symm]
      refine AW.run X M_sampleAt_d 14 1 rfl ?_
      refine AW.if_ge X (M_sampleAt_d.d 15 rfl) (fun q15 => ?_) (fun q15 => ?_)
      · have hj : j = wd := by
          have := (lc_ge (a := (((a * wd : Nat) + j : Nat) : Int)) (b := ((a * wd + wd : Nat) : Int)) ⟨by omega, by omega⟩ ⟨by omega, by omega⟩).mp q15
          omega
        refine AW.run X M_sampleAt_d 43 3 rfl ?_
        exact AW.lret X (M_sampleAt_d.d 46 rfl) (Nat.le_of_ble_eq_true rfl) (Nat.le_of_ble_eq_true rfl) ⟨by rw [hj, show (65536 : Int64) = lZ 65536 from rfl, lZ_mul], rfl⟩
      · have hj : j < wd := by
          have := mt (lc_ge (a := (((a * wd : Nat) + j : Nat) : Int)) (b := ((a * wd + wd : Nat) : Int)) ⟨by omega, by omega⟩ ⟨by omega, by omega⟩).mpr q15
          omega
        refine AW.run X M_sampleAt_d 16 7 rfl ?_
        refine AW.ldiv X (M_sampleAt_d.d 23 rfl) (by decide) ?_
        refine AW.run X M_sampleAt_d 24 1 rfl ?_
        rw [k8_d (k := a * wd + j) (by omega)]
        refine AW.callV (As := [.int (nI f), .int (nI ((a * wd + j) / 8))]) X (M_signAt_m S M tl f ((a * wd + j) / 8) (by omega)) cb_M_177 rfl rfl M_signAt_im M_signAt_se rfl ⟨Nat.le_of_ble_eq_true rfl, Nat.le_of_ble_eq_true rfl⟩ (Nat.le_of_ble_eq_true rfl) ⟨Nat.le_of_ble_eq_true rfl, Nat.le_of_ble_eq_true rfl⟩ (M_sampleAt_d.d 25 rfl) (fun v h' q => ?_)
        obtain ⟨rfl, rfl⟩ := q
        refine AW.run X M_sampleAt_d 26 3 rfl ?_
        refine AW.lrem X (M_sampleAt_d.d 29 rfl) (by decide) ?_
        refine AW.run X M_sampleAt_d 30 1 rfl ?_
        refine AW.run X M_sampleAt_d 31 1 rfl ?_
        rw [k8_r (k := a * wd + j) (by omega)]
        refine AW.run X M_sampleAt_d 32 2 rfl ?_
        refine AW.run X M_sampleAt_d 34 1 rfl ?_
        rw [show (M.2.1 9 (8192 * f + (a * wd + j) / 8) &&& 255) >>> (nI (7 - (a * wd + j) % 8) &&& 31) &&& Int32.ofInt 1 = iZ ((zbt (fun j => M.2.1 9 (8192 * f + j))) (a * wd + j)) from (i32_bit _ _ (by omega)).trans (zbt_i (fun j => M.2.1 9 (8192 * f + j)) (a * wd + j))]
        refine AW.run X M_sampleAt_d 35 1 rfl ?_
        refine AW.run X M_sampleAt_d 36 1 rfl ?_
        rw [sm_s (zbt_b _ _)]
        refine AW.run X M_sampleAt_d 37 3 rfl ?_
        refine AW.run X M_sampleAt_d 40 1 rfl ?_
        rw [show Int64.ofNat ((1 : Fin 2) : Nat) = lZ 1 from lZ_c1, lZ_add, show (((a * wd : Nat) + j : Nat) : Int) + 1 = (((a * wd : Nat) + (j + 1) : Nat) : Int) by omega]
        refine AW.run X M_sampleAt_d 41 1 rfl ?_
        refine AW.goto X (M_sampleAt_d.d 42 rfl) ?_
        exact ih (j + 1) (by omega) (by omega)
  rw [lZ_c0]
  exact L10 (wd + 1) 0 (by omega) (by omega)

