/-! arithmetic: java.lang.Math, the class's Numbers, the reference's own -/
theorem lc_lt {a b : Int} (ha : zL a) (hb : zL b) : lg_cmp (lZ a) (lZ b) < 0 ↔ a < b := (lg_cmp_lt _ _).trans (lZ_lt ha hb)
theorem lc_gt {a b : Int} (ha : zL a) (hb : zL b) : 0 < lg_cmp (lZ a) (lZ b) ↔ b < a := (lg_cmp_gt _ _).trans (lZ_lt hb ha)
theorem lc_le {a b : Int} (ha : zL a) (hb : zL b) : lg_cmp (lZ a) (lZ b) ≤ 0 ↔ a ≤ b := (lg_cmp_le _ _).trans (lZ_le ha hb)
theorem lc_ge {a b : Int} (ha : zL a) (hb : zL b) : 0 ≤ lg_cmp (lZ a) (lZ b) ↔ b ≤ a := (lg_cmp_ge _ _).trans (lZ_le hb ha)
theorem lc_eq {a b : Int} (ha : zL a) (hb : zL b) : lg_cmp (lZ a) (lZ b) = 0 ↔ a = b := (lg_cmp_eq _ _).trans (lZ_eq ha hb)
theorem lx_neg (x y : Int64) : (x ^^^ y).toInt < 0 ↔ ¬ (x.toInt < 0 ↔ y.toInt < 0) := by
  have h1 := BitVec.msb_eq_toInt (x := x.toBitVec)
  have h2 := BitVec.msb_eq_toInt (x := y.toBitVec)
  have h3 := BitVec.msb_eq_toInt (x := (x ^^^ y).toBitVec)
  rw [Int64.toBitVec_xor, BitVec.msb_xor, h1, h2] at h3
  have h4 : decide ((x ^^^ y).toInt < 0) = (decide (x.toInt < 0) ^^ decide (y.toInt < 0)) := by
    exact h3.symm
  by_cases a : x.toInt < 0 <;> by_cases b : y.toInt < 0 <;> simp [a, b] at h4 ⊢ <;> omega
def zcut (v lo hi : Int) : Int := if v < lo then lo else if hi < v then hi else v
/-- a number cut to -2^30 .. 2^30 -/
def zk (v : Int) : Int := zcut v (-1073741824) 1073741824
def ztimes (a b : Int) : Int := zk ((a * b).fdiv 65536)
def zlaid (x p q r s : Int) : Int := if p = q then r else zk (r + ((x - p) * (s - r)).fdiv (q - p))
/-- a number of the document -/
def zN (z : Int) : Prop := -1073741824 ≤ z ∧ z ≤ 1073741824
theorem zk_N (v : Int) : zN (zk v) := by
  unfold zk zcut zN
  split
  · omega
  · split <;> omega
theorem zN_L {z : Int} (h : zN z) : zL z := ⟨by have := h.1; omega, by have := h.2; omega⟩
theorem zN_I {z : Int} (h : zN z) : zI z := ⟨by have := h.1; omega, by have := h.2; omega⟩
theorem zk_id {z : Int} (h : zN z) : zk z = z := by
  unfold zk zcut
  have := h.1
  have := h.2
  rw [if_neg (by omega), if_neg (by omega)]
set_option maxHeartbeats 4000000 in
set_option maxRecDepth 100000 in
theorem JMath_max1_m {l : Launch} {G : ax_G} {h : List va_E} (x y : Int32) :
    AM l VV G JMath_max1_y JMath_max1_c 2 (some .int) 0 0 0 [.int x, .int y] (h) (fun v h' => v = some (.int (if x < y then y else x)) ∧ h' = h) := by
  refine AM.ofF (pl := pl_JMath) JMath_max1_pf v_good fl_JMath_ok kl_JMath_ok nofun (Nat.le_of_ble_eq_true rfl) ?_
  intro p e s m args below meth c X
  refine AW.run X JMath_max1_d 0 2 rfl ?_
  refine AW.icmp_lt X (JMath_max1_d.d 2 rfl) (fun q2 => ?_) (fun q2 => ?_)
  · refine AW.run X JMath_max1_d 5 1 rfl ?_
    exact AW.iret X (JMath_max1_d.d 6 rfl) (Nat.le_of_ble_eq_true rfl) (Nat.le_of_ble_eq_true rfl) ⟨by rw [if_pos q2], rfl⟩
  · refine AW.run X JMath_max1_d 3 1 rfl ?_
    refine AW.goto X (JMath_max1_d.d 4 rfl) ?_
    exact AW.iret X (JMath_max1_d.d 6 rfl) (Nat.le_of_ble_eq_true rfl) (Nat.le_of_ble_eq_true rfl) ⟨by rw [if_neg q2], rfl⟩

set_option maxHeartbeats 4000000 in
set_option maxRecDepth 100000 in
theorem JMath_min1_m {l : Launch} {G : ax_G} {h : List va_E} (x y : Int32) :
    AM l VV G JMath_min1_y JMath_min1_c 2 (some .int) 0 0 0 [.int x, .int y] (h) (fun v h' => v = some (.int (if y < x then y else x)) ∧ h' = h) := by
  refine AM.ofF (pl := pl_JMath) JMath_min1_pf v_good fl_JMath_ok kl_JMath_ok nofun (Nat.le_of_ble_eq_true rfl) ?_
  intro p e s m args below meth c X
  refine AW.run X JMath_min1_d 0 2 rfl ?_
  refine AW.icmp_gt X (JMath_min1_d.d 2 rfl) (fun q2 => ?_) (fun q2 => ?_)
  · refine AW.run X JMath_min1_d 5 1 rfl ?_
    exact AW.iret X (JMath_min1_d.d 6 rfl) (Nat.le_of_ble_eq_true rfl) (Nat.le_of_ble_eq_true rfl) ⟨by rw [if_pos q2], rfl⟩
  · refine AW.run X JMath_min1_d 3 1 rfl ?_
    refine AW.goto X (JMath_min1_d.d 4 rfl) ?_
    exact AW.iret X (JMath_min1_d.d 6 rfl) (Nat.le_of_ble_eq_true rfl) (Nat.le_of_ble_eq_true rfl) ⟨by rw [if_neg q2], rfl⟩

set_option maxHeartbeats 4000000 in
set_option maxRecDepth 100000 in
theorem JMath_min2_m {l : Launch} {G : ax_G} {h : List va_E} (x y : Int64) :
    AM l VV G JMath_min2_y JMath_min2_c 4 (some .long) 0 0 0 [.long x, .long y] (h) (fun v h' => v = some (.long (if y < x then y else x)) ∧ h' = h) := by
  refine AM.ofF (pl := pl_JMath) JMath_min2_pf v_good fl_JMath_ok kl_JMath_ok nofun (Nat.le_of_ble_eq_true rfl) ?_
  intro p e s m args below meth c X
  refine AW.run X JMath_min2_d 0 3 rfl ?_
  refine AW.if_gt X (JMath_min2_d.d 3 rfl) (fun q3 => ?_) (fun q3 => ?_)
  · refine AW.run X JMath_min2_d 6 1 rfl ?_
    exact AW.lret X (JMath_min2_d.d 7 rfl) (Nat.le_of_ble_eq_true rfl) (Nat.le_of_ble_eq_true rfl) ⟨by rw [if_pos ((lg_cmp_gt _ _).mp q3)], rfl⟩
  · refine AW.run X JMath_min2_d 4 1 rfl ?_
    refine AW.goto X (JMath_min2_d.d 5 rfl) ?_
    exact AW.lret X (JMath_min2_d.d 7 rfl) (Nat.le_of_ble_eq_true rfl) (Nat.le_of_ble_eq_true rfl) ⟨by rw [if_neg (fun z => q3 ((lg_cmp_gt _ _).mpr z))], rfl⟩

set_option maxHeartbeats 4000000 in
set_option maxRecDepth 100000 in
theorem JMath_max2_m {l : Launch} {G : ax_G} {h : List va_E} (x y : Int64) :
    AM l VV G JMath_max2_y JMath_max2_c 4 (some .long) 0 0 0 [.long x, .long y] (h) (fun v h' => v = some (.long (if x < y then y else x)) ∧ h' = h) := by
  refine AM.ofF (pl := pl_JMath) JMath_max2_pf v_good fl_JMath_ok kl_JMath_ok nofun (Nat.le_of_ble_eq_true rfl) ?_
  intro p e s m args below meth c X
  refine AW.run X JMath_max2_d 0 3 rfl ?_
  refine AW.if_lt X (JMath_max2_d.d 3 rfl) (fun q3 => ?_) (fun q3 => ?_)
  · refine AW.run X JMath_max2_d 6 1 rfl ?_
    exact AW.lret X (JMath_max2_d.d 7 rfl) (Nat.le_of_ble_eq_true rfl) (Nat.le_of_ble_eq_true rfl) ⟨by rw [if_pos ((lg_cmp_lt _ _).mp q3)], rfl⟩
  · refine AW.run X JMath_max2_d 4 1 rfl ?_
    refine AW.goto X (JMath_max2_d.d 5 rfl) ?_
    exact AW.lret X (JMath_max2_d.d 7 rfl) (Nat.le_of_ble_eq_true rfl) (Nat.le_of_ble_eq_true rfl) ⟨by rw [if_neg (fun z => q3 ((lg_cmp_lt _ _).mpr z))], rfl⟩

set_option maxHeartbeats 4000000 in
set_option maxRecDepth 100000 in
theorem JMath_abs_m {l : Launch} {G : ax_G} {h : List va_E} (x : Int32) :
    AM l VV G JMath_abs_y JMath_abs_c 1 (some .int) 0 0 0 [.int x] (h) (fun v h' => v = some (.int (if 0 ≤ x then x else -x)) ∧ h' = h) := by
  refine AM.ofF (pl := pl_JMath) JMath_abs_pf v_good fl_JMath_ok kl_JMath_ok nofun (Nat.le_of_ble_eq_true rfl) ?_
  intro p e s m args below meth c X
  refine AW.run X JMath_abs_d 0 1 rfl ?_
  refine AW.if_ge X (JMath_abs_d.d 1 rfl) (fun q1 => ?_) (fun q1 => ?_)
  · refine AW.run X JMath_abs_d 5 1 rfl ?_
    exact AW.iret X (JMath_abs_d.d 6 rfl) (Nat.le_of_ble_eq_true rfl) (Nat.le_of_ble_eq_true rfl) ⟨by rw [if_pos q1], rfl⟩
  · refine AW.run X JMath_abs_d 2 2 rfl ?_
    refine AW.goto X (JMath_abs_d.d 4 rfl) ?_
    exact AW.iret X (JMath_abs_d.d 6 rfl) (Nat.le_of_ble_eq_true rfl) (Nat.le_of_ble_eq_true rfl) ⟨by rw [if_neg q1], rfl⟩

theorem zfd {a b : Int} (hb : b ≠ 0) : a.fdiv b = if (¬ (a < 0 ↔ b < 0)) ∧ a.tdiv b * b ≠ a then a.tdiv b - 1 else a.tdiv b := by
  rw [Int.fdiv_eq_tdiv]
  have hd : b ∣ a ↔ a.tdiv b * b = a := by
    rw [Int.tdiv_mul_self]
    constructor
    · intro h
      rw [Int.tmod_eq_zero_of_dvd h]
      omega
    · intro h
      exact Int.dvd_of_tmod_eq_zero (by omega)
  by_cases h1 : b ∣ a
  · rw [if_pos h1, if_neg (fun q => q.2 (hd.mp h1))]
    omega
  · have h2 : ¬ a.tdiv b * b = a := fun q => h1 (hd.mpr q)
    have ha : a ≠ 0 := fun q => h1 (by rw [q]; exact Int.dvd_zero b)
    rw [if_neg h1]
    by_cases s1 : 0 ≤ a <;> by_cases s2 : 0 ≤ b
    · rw [if_pos s1, if_pos s2, if_neg (fun q => q.1 (by omega))]; omega
    · rw [if_pos s1, if_neg s2, if_pos ⟨by omega, h2⟩]
    · rw [if_neg s1, if_pos s2, if_pos ⟨by omega, h2⟩, Int.sign_eq_one_of_pos (by omega)]
    · rw [if_neg s1, if_neg s2, if_neg (fun q => q.1 (by omega)), Int.sign_eq_neg_one_of_neg (by omega)]; omega
set_option maxHeartbeats 4000000 in
set_option maxRecDepth 100000 in
theorem JMath_floorDiv_m {l : Launch} {G : ax_G} {h : List va_E} (a b : Int) (ha : zL a) (hb : zL b) (h0 : b ≠ 0) (hn : a ≠ -9223372036854775808 ∨ b ≠ -1) :
    AM l VV G JMath_floorDiv_y JMath_floorDiv_c 6 (some .long) 0 0 0 [.long (lZ a), .long (lZ b)] (h) (fun v h' => v = some (.long (lZ (a.fdiv b))) ∧ h' = h) := by
  refine AM.ofF (pl := pl_JMath) JMath_floorDiv_pf v_good fl_JMath_ok kl_JMath_ok nofun (Nat.le_of_ble_eq_true rfl) ?_
  intro p e s m args below meth c X
  have JD := lZ_div ha hb hn
  have JQ := zfd (a := a) h0
  have JX : ¬ (a < 0 ↔ b < 0) ↔ ¬ 0 ≤ lg_cmp (lZ a ^^^ lZ b) (Int64.ofNat ((0 : Fin 2) : Nat)) := by
    rw [lg_cmp_ge, Int64.le_iff_toInt_le]
    have h1 := lx_neg (lZ a) (lZ b)
    rw [lZ_t ha, lZ_t hb] at h1
    have h2 : (Int64.ofNat ((0 : Fin 2) : Nat)).toInt = 0 := by decide
    rw [h2, ← h1]
    omega
  have JM : lg_cmp (lZ (a.tdiv b) * lZ b) (lZ a) = 0 ↔ a.tdiv b * b = a := by
    rw [lZ_mul]
    refine lc_eq ?_ ha
    have h1 := Int.tdiv_mul_self a b
    have h2 : (a.tmod b).natAbs ≤ a.natAbs := by rw [Int.natAbs_tmod]; exact Nat.mod_le _ _
    have h3 : 0 ≤ a → 0 ≤ a.tmod b := fun q => Int.tmod_nonneg b q
    have h4 : a ≤ 0 → a.tmod b ≤ 0 := fun q => by
      have := Int.tmod_nonneg (a := -a) b (by omega)
      rw [Int.neg_tmod] at this
      omega
    have := ha.1
    have := ha.2
    exact ⟨by omega, by omega⟩
  refine AW.run X JMath_floorDiv_d 0 2 rfl ?_
  refine AW.ldiv X (JMath_floorDiv_d.d 2 rfl) (fun q => h0 ((lZ_eq hb (b := 0) ⟨by decide, by decide⟩).mp q)) ?_
  rw [JD]
  refine AW.run X JMath_floorDiv_d 3 6 rfl ?_
  refine AW.if_ge X (JMath_floorDiv_d.d 9 rfl) (fun q9 => ?_) (fun q9 => ?_)
  · refine AW.run X JMath_floorDiv_d 20 1 rfl ?_
    exact AW.lret X (JMath_floorDiv_d.d 21 rfl) (Nat.le_of_ble_eq_true rfl) (Nat.le_of_ble_eq_true rfl) ⟨by rw [JQ, if_neg (fun z => JX.mp z.1 q9)], rfl⟩
  · refine AW.run X JMath_floorDiv_d 10 5 rfl ?_
    refine AW.if_eq X (JMath_floorDiv_d.d 15 rfl) (fun q15 => ?_) (fun q15 => ?_)
    · refine AW.run X JMath_floorDiv_d 20 1 rfl ?_
      exact AW.lret X (JMath_floorDiv_d.d 21 rfl) (Nat.le_of_ble_eq_true rfl) (Nat.le_of_ble_eq_true rfl) ⟨by rw [JQ, if_neg (fun z => z.2 (JM.mp q15))], rfl⟩
    · refine AW.run X JMath_floorDiv_d 16 3 rfl ?_
      exact AW.lret X (JMath_floorDiv_d.d 19 rfl) (Nat.le_of_ble_eq_true rfl) (Nat.le_of_ble_eq_true rfl) ⟨by rw [JQ, if_pos ⟨JX.mpr q9, fun z => q15 (JM.mpr z)⟩, lZ_c1, lZ_sub], rfl⟩

set_option maxHeartbeats 4000000 in
set_option maxRecDepth 100000 in
theorem M_cutTo_m {l : Launch} {G : ax_G} {h : List va_E} (v lo hi : Int) (hv : zL v) (hlo : zL lo) (hhi : zL hi) :
    AM l VV G M_cutTo_y M_cutTo_c 6 (some .long) 0 0 0 [.long (lZ v), .long (lZ lo), .long (lZ hi)] (h) (fun w h' => w = some (.long (lZ (zcut v lo hi))) ∧ h' = h) := by
  refine AM.of (pl := pl_M) (by decide) v_good fl_M_ok kl_M_ok nofun (Nat.le_of_ble_eq_true rfl) ?_
  intro p e s m args below meth c X
  refine AW.run X M_cutTo_d 0 3 rfl ?_
  refine AW.if_ge X (M_cutTo_d.d 3 rfl) (fun q3 => ?_) (fun q3 => ?_)
  · refine AW.run X M_cutTo_d 6 3 rfl ?_
    refine AW.if_le X (M_cutTo_d.d 9 rfl) (fun q9 => ?_) (fun q9 => ?_)
    · refine AW.run X M_cutTo_d 12 1 rfl ?_
      exact AW.lret X (M_cutTo_d.d 13 rfl) (Nat.le_of_ble_eq_true rfl) (Nat.le_of_ble_eq_true rfl) ⟨by rw [zcut, if_neg (by have := (lc_ge hv hlo).mp q3; omega), if_neg (by have := (lc_le hv hhi).mp q9; omega)], rfl⟩
    · refine AW.run X M_cutTo_d 10 1 rfl ?_
      refine AW.goto X (M_cutTo_d.d 11 rfl) ?_
      exact AW.lret X (M_cutTo_d.d 13 rfl) (Nat.le_of_ble_eq_true rfl) (Nat.le_of_ble_eq_true rfl) ⟨by rw [zcut, if_neg (by have := (lc_ge hv hlo).mp q3; omega), if_pos (by have := mt (lc_le hv hhi).mpr q9; omega)], rfl⟩
  · refine AW.run X M_cutTo_d 4 1 rfl ?_
    refine AW.goto X (M_cutTo_d.d 5 rfl) ?_
    exact AW.lret X (M_cutTo_d.d 13 rfl) (Nat.le_of_ble_eq_true rfl) (Nat.le_of_ble_eq_true rfl) ⟨by rw [zcut, if_pos (by have := mt (lc_ge hv hlo).mpr q3; omega)], rfl⟩

set_option maxHeartbeats 4000000 in
set_option maxRecDepth 100000 in
theorem M_kept_m {l : Launch} {G : ax_G} {h : List va_E} (v : Int) (hv : zL v) :
    AM l VV G M_kept_y M_kept_c 2 (some .long) 1 0 0 [.long (lZ v)] (h) (fun w h' => w = some (.long (lZ (zk v))) ∧ h' = h) := by
  refine AM.of (pl := pl_M) (by decide) v_good fl_M_ok kl_M_ok nofun (Nat.le_of_ble_eq_true rfl) ?_
  intro p e s m args below meth c X
  refine AW.run X M_kept_d 0 3 rfl ?_
  refine AW.callS (As := [_, _, _]) X (M_cutTo_m v (-1073741824) 1073741824 hv ⟨by decide, by decide⟩ ⟨by decide, by decide⟩) cb_M_104 M_cutTo_st rfl ⟨Nat.le_of_ble_eq_true rfl, Nat.le_of_ble_eq_true rfl⟩ (Nat.le_of_ble_eq_true rfl) ⟨Nat.le_of_ble_eq_true rfl, Nat.le_of_ble_eq_true rfl⟩ (M_kept_d.d 3 rfl) (fun v h' q => ?_)
  obtain ⟨rfl, rfl⟩ := q
  exact AW.lret X (M_kept_d.d 4 rfl) (Nat.le_of_ble_eq_true rfl) (Nat.le_of_ble_eq_true rfl) ⟨rfl, rfl⟩

set_option maxHeartbeats 4000000 in
set_option maxRecDepth 100000 in
theorem M_down_m {l : Launch} {G : ax_G} {h : List va_E} (a b : Int) (ha : zL a) (hb : zL b) (h0 : b ≠ 0) (hn : a ≠ -9223372036854775808 ∨ b ≠ -1) :
    AM l VV G M_down_y M_down_c 4 (some .long) 1 0 0 [.long (lZ a), .long (lZ b)] (h) (fun v h' => v = some (.long (lZ (a.fdiv b))) ∧ h' = h) := by
  refine AM.of (pl := pl_M) (by decide) v_good fl_M_ok kl_M_ok nofun (Nat.le_of_ble_eq_true rfl) ?_
  intro p e s m args below meth c X
  refine AW.run X M_down_d 0 2 rfl ?_
  refine AW.callS (As := [_, _]) X (JMath_floorDiv_m a b ha hb h0 hn) cb_M_108 JMath_floorDiv_st rfl ⟨Nat.le_of_ble_eq_true rfl, Nat.le_of_ble_eq_true rfl⟩ (Nat.le_of_ble_eq_true rfl) ⟨Nat.le_of_ble_eq_true rfl, Nat.le_of_ble_eq_true rfl⟩ (M_down_d.d 2 rfl) (fun v h' q => ?_)
  obtain ⟨rfl, rfl⟩ := q
  exact AW.lret X (M_down_d.d 3 rfl) (Nat.le_of_ble_eq_true rfl) (Nat.le_of_ble_eq_true rfl) ⟨rfl, rfl⟩

theorem fd_lt {a b m : Int} (hb : 0 < b) (h1 : -m * b ≤ a) (h2 : a < m * b) : -m ≤ a.fdiv b ∧ a.fdiv b < m := by
  rw [Int.fdiv_eq_ediv_of_nonneg _ (by omega)]
  exact ⟨Int.le_ediv_of_mul_le hb h1, Int.ediv_lt_of_lt_mul hb h2⟩
theorem mul_bd {a b A B : Int} (h1 : -A ≤ a) (h2 : a ≤ A) (h3 : -B ≤ b) (h4 : b ≤ B) : -(A * B) ≤ a * b ∧ a * b ≤ A * B := by
  have hA : 0 ≤ A := by omega
  have hB : 0 ≤ B := by omega
  have k : (a * b).natAbs ≤ A.natAbs * B.natAbs := by
    rw [Int.natAbs_mul]
    exact Nat.mul_le_mul (by omega) (by omega)
  have k2 : ((A.natAbs * B.natAbs : Nat) : Int) = A * B := by
    rw [Int.natCast_mul, Int.natAbs_of_nonneg hA, Int.natAbs_of_nonneg hB]
  have k3 : ((a * b).natAbs : Int) ≤ A * B := by rw [← k2]; exact Int.ofNat_le.mpr k
  omega
/-- what a product of two numbers is -/
theorem zN_mul {a b : Int} (ha : zN a) (hb : zN b) : zL (a * b) ∧ (a * b) ≠ -9223372036854775808 := by
  have h := mul_bd (A := 1073741824) (B := 1073741824) (by have := ha.1; omega) ha.2 (by have := hb.1; omega) hb.2
  have e : (1073741824 * 1073741824 : Int) = 1152921504606846976 := by decide
  rw [e] at h
  exact ⟨⟨by omega, by omega⟩, by omega⟩
theorem zN_fd {a b : Int} (ha : zN a) (hb : zN b) : zL ((a * b).fdiv 65536) := by
  have h := mul_bd (A := 1073741824) (B := 1073741824) (by have := ha.1; omega) ha.2 (by have := hb.1; omega) hb.2
  have e : (1073741824 * 1073741824 : Int) = 1152921504606846976 := by decide
  rw [e] at h
  have k := fd_lt (a := a * b) (b := 65536) (m := 9223372036854775807) (by decide) (by omega) (by omega)
  exact ⟨by omega, by omega⟩
theorem fd_abs {a b : Int} (hb : b ≠ 0) : (a.fdiv b).natAbs ≤ a.natAbs := by
  rw [zfd hb]
  have h1 : (a.tdiv b).natAbs ≤ a.natAbs := Int.natAbs_tdiv_le_natAbs a b
  have h2 : (a.tdiv b).natAbs = a.natAbs / b.natAbs := Int.natAbs_tdiv a b
  split
  · next h =>
    have hs : a ≠ 0 := fun q => h.2 (by rw [q]; simp)
    rcases Nat.lt_or_ge 1 b.natAbs with q | q
    · have h3 : a.natAbs / b.natAbs ≤ a.natAbs / 2 := Nat.div_le_div_left q (by decide)
      omega
    · have h4 : b = 1 ∨ b = -1 := by omega
      rcases h4 with rfl | rfl
      · exact absurd (by rw [Int.tdiv_one]; omega) h.2
      · exact absurd (by rw [Int.tdiv_neg, Int.tdiv_one]; omega) h.2
  · exact h1
set_option maxHeartbeats 4000000 in
set_option maxRecDepth 100000 in
theorem M_times_m {l : Launch} {G : ax_G} {h : List va_E} (a b : Int) (ha : zN a) (hb : zN b) :
    AM l VV G M_times_y M_times_c 4 (some .long) 2 0 0 [.long (lZ a), .long (lZ b)] (h) (fun v h' => v = some (.long (lZ (ztimes a b))) ∧ h' = h) := by
  refine AM.of (pl := pl_M) (by decide) v_good fl_M_ok kl_M_ok nofun (Nat.le_of_ble_eq_true rfl) ?_
  intro p e s m args below meth c X
  refine AW.run X M_times_d 0 4 rfl ?_
  rw [lZ_mul]
  refine AW.callS (As := [_, _]) X (M_down_m (a * b) 65536 (zN_mul ha hb).1 ⟨by decide, by decide⟩ (by decide) (Or.inr (by decide))) cb_M_116 M_down_st rfl ⟨Nat.le_of_ble_eq_true rfl, Nat.le_of_ble_eq_true rfl⟩ (Nat.le_of_ble_eq_true rfl) ⟨Nat.le_of_ble_eq_true rfl, Nat.le_of_ble_eq_true rfl⟩ (M_times_d.d 4 rfl) (fun v h' q => ?_)
  obtain ⟨rfl, rfl⟩ := q
  refine AW.callS (As := [_]) X (M_kept_m _ (zN_fd ha hb)) cb_M_119 M_kept_st rfl ⟨Nat.le_of_ble_eq_true rfl, Nat.le_of_ble_eq_true rfl⟩ (Nat.le_of_ble_eq_true rfl) ⟨Nat.le_of_ble_eq_true rfl, Nat.le_of_ble_eq_true rfl⟩ (M_times_d.d 5 rfl) (fun v h' q => ?_)
  obtain ⟨rfl, rfl⟩ := q
  exact AW.lret X (M_times_d.d 6 rfl) (Nat.le_of_ble_eq_true rfl) (Nat.le_of_ble_eq_true rfl) ⟨rfl, rfl⟩

/-- the road of 'laid' -/
theorem laid_ok {x p q r s : Int} (hx : p ≤ x ∧ x ≤ q) (hpq : p ≠ q) (hb : q - p ≤ 4611686018427387904) (hr : zN r) (hs : zN s) (hw : (q - p) * 2147483648 ≤ 9223372036854775807) : zL ((x - p) * (s - r)) ∧ ((x - p) * (s - r)) ≠ -9223372036854775808 ∧ zL (r + ((x - p) * (s - r)).fdiv (q - p)) := by
  have h := mul_bd (a := x - p) (b := s - r) (A := q - p) (B := 2147483648) (by omega) (by omega) (by have := hr.2; have := hs.1; omega) (by have := hr.1; have := hs.2; omega)
  have k := fd_lt (a := (x - p) * (s - r)) (b := q - p) (m := 2147483649) (by omega) (by
    have e : -2147483649 * (q - p) = -((q - p) * 2147483648) - (q - p) := by rw [Int.neg_mul, show (2147483649 : Int) = 2147483648 + 1 from rfl, Int.add_mul, Int.mul_comm]; omega
    omega) (by
    have e : 2147483649 * (q - p) = (q - p) * 2147483648 + (q - p) := by rw [show (2147483649 : Int) = 2147483648 + 1 from rfl, Int.add_mul, Int.mul_comm]; omega
    omega)
  have := hr.1
  have := hr.2
  exact ⟨⟨by omega, by omega⟩, by omega, ⟨by omega, by omega⟩⟩
set_option maxHeartbeats 4000000 in
set_option maxRecDepth 100000 in
theorem M_laid_m {l : Launch} {G : ax_G} {h : List va_E} (x p0 q r s0 : Int) (hx : p0 ≤ x ∧ x ≤ q) (hp : zL p0) (hq : zL q) (hb : q - p0 ≤ 4294967295) (hr : zN r) (hs : zN s0) :
    AM l VV G M_laid_y M_laid_c 10 (some .long) 2 0 0 [.long (lZ x), .long (lZ p0), .long (lZ q), .long (lZ r), .long (lZ s0)] (h) (fun v h' => v = some (.long (lZ (zlaid x p0 q r s0))) ∧ h' = h) := by
  refine AM.of (pl := pl_M) (by decide) v_good fl_M_ok kl_M_ok nofun (Nat.le_of_ble_eq_true rfl) ?_
  intro p e s m args below meth c X
  have hw : (q - p0) * 2147483648 ≤ 9223372036854775807 := by
    have : (q - p0) * 2147483648 ≤ 4294967295 * 2147483648 := Int.mul_le_mul_of_nonneg_right hb (by decide)
    omega
  refine AW.run X M_laid_d 0 3 rfl ?_
  refine AW.if_ne X (M_laid_d.d 3 rfl) (fun q3 => ?_) (fun q3 => ?_)
  · refine AW.run X M_laid_d 6 11 rfl ?_
    have hne : p0 ≠ q := fun z => q3 ((lc_eq hp hq).mpr z)
    obtain ⟨k1, k2, k3⟩ := laid_ok hx hne (by omega) hr hs hw
    rw [lZ_sub, lZ_sub, lZ_sub, lZ_mul]
    refine AW.callS (As := [_, _]) X (M_down_m _ (q - p0) k1 ⟨by omega, by omega⟩ (by omega) (Or.inl k2)) cb_M_116 M_down_st rfl ⟨Nat.le_of_ble_eq_true rfl, Nat.le_of_ble_eq_true rfl⟩ (Nat.le_of_ble_eq_true rfl) ⟨Nat.le_of_ble_eq_true rfl, Nat.le_of_ble_eq_true rfl⟩ (M_laid_d.d 17 rfl) (fun v h' q => ?_)
    obtain ⟨rfl, rfl⟩ := q
    refine AW.run X M_laid_d 18 1 rfl ?_
    rw [lZ_add]
    refine AW.callS (As := [_]) X (M_kept_m _ k3) cb_M_119 M_kept_st rfl ⟨Nat.le_of_ble_eq_true rfl, Nat.le_of_ble_eq_true rfl⟩ (Nat.le_of_ble_eq_true rfl) ⟨Nat.le_of_ble_eq_true rfl, Nat.le_of_ble_eq_true rfl⟩ (M_laid_d.d 19 rfl) (fun v h' q => ?_)
    obtain ⟨rfl, rfl⟩ := q
    exact AW.lret X (M_laid_d.d 20 rfl) (Nat.le_of_ble_eq_true rfl) (Nat.le_of_ble_eq_true rfl) ⟨by rw [zlaid, if_neg hne], rfl⟩
  · refine AW.run X M_laid_d 4 1 rfl ?_
    refine AW.goto X (M_laid_d.d 5 rfl) ?_
    exact AW.lret X (M_laid_d.d 20 rfl) (Nat.le_of_ble_eq_true rfl) (Nat.le_of_ble_eq_true rfl) ⟨by rw [zlaid, if_pos ((lc_eq hp hq).mp q3)], rfl⟩

theorem lZ_min {a b : Int} (ha : zL a) (hb : zL b) : (if lZ a < lZ b then lZ a else lZ b) = lZ (if a < b then a else b) := by
  by_cases h : a < b
  · rw [if_pos ((lZ_lt ha hb).mpr h), if_pos h]
  · rw [if_neg (mt (lZ_lt ha hb).mp h), if_neg h]
theorem lZ_max {a b : Int} (ha : zL a) (hb : zL b) : (if lZ a < lZ b then lZ b else lZ a) = lZ (if a < b then b else a) := by
  by_cases h : a < b
  · rw [if_pos ((lZ_lt ha hb).mpr h), if_pos h]
  · rw [if_neg (mt (lZ_lt ha hb).mp h), if_neg h]
theorem mm_cut {x lo hi : Int} (h : lo ≤ hi) : (if lo < (if x < hi then x else hi) then (if x < hi then x else hi) else lo) = zcut x lo hi := by
  unfold zcut
  by_cases h1 : x < hi
  · rw [if_pos h1]
    by_cases h2 : lo < x
    · rw [if_pos h2, if_neg (by omega), if_neg (by omega)]
    · rw [if_neg h2]
      by_cases h3 : x < lo
      · rw [if_pos h3]
      · rw [if_neg h3, if_neg (by omega)]
        omega
  · rw [if_neg h1, if_neg (by omega : ¬ x < lo)]
    by_cases h2 : lo < hi
    · rw [if_pos h2]
      by_cases h3 : hi < x
      · rw [if_pos h3]
      · rw [if_neg h3]; omega
    · rw [if_neg h2]
      by_cases h3 : hi < x
      · rw [if_pos h3]; omega
      · rw [if_neg h3]; omega
set_option maxHeartbeats 4000000 in
set_option maxRecDepth 100000 in
theorem B_within_m {l : Launch} {G : ax_G} {h : List va_E} (x lo hi : Int) (hx : zL x) (hlo : zL lo) (hhi : zL hi) (hle : lo ≤ hi) :
    AM l VV G B_within_y B_within_c 6 (some .long) 1 0 0 [.long (lZ x), .long (lZ lo), .long (lZ hi)] (h) (fun v h' => v = some (.long (lZ (zcut x lo hi))) ∧ h' = h) := by
  refine AM.of (pl := pl_B) (by decide) v_good fl_B_ok kl_B_ok nofun (Nat.le_of_ble_eq_true rfl) ?_
  intro p e s m args below meth c X
  refine AW.run X B_within_d 0 3 rfl ?_
  refine AW.callS (As := [_, _]) X (JMath_min2_m (lZ hi) (lZ x)) cb_B_9 JMath_min2_st rfl ⟨Nat.le_of_ble_eq_true rfl, Nat.le_of_ble_eq_true rfl⟩ (Nat.le_of_ble_eq_true rfl) ⟨Nat.le_of_ble_eq_true rfl, Nat.le_of_ble_eq_true rfl⟩ (B_within_d.d 3 rfl) (fun v h' q => ?_)
  obtain ⟨rfl, rfl⟩ := q
  refine AW.callS (As := [_, _]) X (JMath_max2_m (lZ lo) _) cb_B_15 JMath_max2_st rfl ⟨Nat.le_of_ble_eq_true rfl, Nat.le_of_ble_eq_true rfl⟩ (Nat.le_of_ble_eq_true rfl) ⟨Nat.le_of_ble_eq_true rfl, Nat.le_of_ble_eq_true rfl⟩ (B_within_d.d 4 rfl) (fun v h' q => ?_)
  obtain ⟨rfl, rfl⟩ := q
  exact AW.lret X (B_within_d.d 5 rfl) (Nat.le_of_ble_eq_true rfl) (Nat.le_of_ble_eq_true rfl) ⟨by rw [lZ_min hx hhi, lZ_max hlo (by split; exact hx; exact hhi), mm_cut hle], rfl⟩

set_option maxHeartbeats 4000000 in
set_option maxRecDepth 100000 in
theorem B_number_m {l : Launch} {G : ax_G} {h : List va_E} (x : Int) (hx : zL x) :
    AM l VV G B_number_y B_number_c 2 (some .int) 0 0 0 [.long (lZ x)] (h) (fun v h' => v = some (.int (iZ (zk x))) ∧ h' = h) := by
  refine AM.of (pl := pl_B) (by decide) v_good fl_B_ok kl_B_ok nofun (Nat.le_of_ble_eq_true rfl) ?_
  intro p e s m args below meth c X
  refine AW.run X B_number_d 0 3 rfl ?_
  refine AW.if_le X (B_number_d.d 3 rfl) (fun q3 => ?_) (fun q3 => ?_)
  · refine AW.run X B_number_d 6 3 rfl ?_
    refine AW.if_ge X (B_number_d.d 9 rfl) (fun q9 => ?_) (fun q9 => ?_)
    · refine AW.run X B_number_d 12 2 rfl ?_
      exact AW.iret X (B_number_d.d 14 rfl) (Nat.le_of_ble_eq_true rfl) (Nat.le_of_ble_eq_true rfl) ⟨by rw [lZ_i, zk, zcut, if_neg (by have := (lc_ge hx ⟨by decide, by decide⟩).mp (show 0 ≤ lg_cmp (lZ x) (lZ (-1073741824)) from q9); omega), if_neg (by have := (lc_le hx ⟨by decide, by decide⟩).mp (show lg_cmp (lZ x) (lZ 1073741824) ≤ 0 from q3); omega)], rfl⟩
    · refine AW.run X B_number_d 10 1 rfl ?_
      refine AW.goto X (B_number_d.d 11 rfl) ?_
      exact AW.iret X (B_number_d.d 14 rfl) (Nat.le_of_ble_eq_true rfl) (Nat.le_of_ble_eq_true rfl) ⟨by rw [zk, zcut, if_pos (by have := mt (lc_ge hx ⟨by decide, by decide⟩).mpr (show ¬ 0 ≤ lg_cmp (lZ x) (lZ (-1073741824)) from q9); omega)]; rfl, rfl⟩
  · refine AW.run X B_number_d 4 1 rfl ?_
    exact AW.iret X (B_number_d.d 5 rfl) (Nat.le_of_ble_eq_true rfl) (Nat.le_of_ble_eq_true rfl) ⟨by rw [zk, zcut, if_neg (by have := mt (lc_le hx ⟨by decide, by decide⟩).mpr (show ¬ lg_cmp (lZ x) (lZ 1073741824) ≤ 0 from q3); omega), if_pos (by have := mt (lc_le hx ⟨by decide, by decide⟩).mpr (show ¬ lg_cmp (lZ x) (lZ 1073741824) ≤ 0 from q3); omega)]; rfl, rfl⟩

theorem lZ_sar (D : Int64) (d : Nat) (hD : (D.toBitVec.smod 64).toNat = d) {z : Int} (h : zL z) : lZ z >>> D = lZ (z.fdiv (2 ^ d)) := by
  have hp : (0 : Int) < 2 ^ d := Int.pow_pos (by decide)
  have e : (lZ z >>> D).toInt = z >>> d := by
    have : (lZ z >>> D).toInt = (lZ z).toInt >>> d := by
      rw [← hD]
      exact BitVec.toInt_sshiftRight ..
    rw [this, lZ_t h]
  have k : zL (z.fdiv (2 ^ d)) := by
    have h1 := fd_abs (a := z) (b := 2 ^ d) (by omega)
    have := h.1
    have := h.2
    rw [Int.fdiv_eq_ediv_of_nonneg _ (Int.le_of_lt hp)] at h1 ⊢
    have h2 : z < 0 → z / 2 ^ d < 0 := fun q => Int.ediv_neg_of_neg_of_pos q hp
    have h3 : 0 ≤ z → 0 ≤ z / 2 ^ d := fun q => Int.ediv_nonneg q (Int.le_of_lt hp)
    by_cases q : z < 0
    · have := h2 q
      exact ⟨by omega, by omega⟩
    · have := h3 (by omega)
      exact ⟨by omega, by omega⟩
  apply Int64.toInt_inj.mp
  rw [e, lZ_t k, Int.shiftRight_eq_div_pow, Int.fdiv_eq_ediv_of_nonneg _ (Int.le_of_lt hp)]
  norm_cast
set_option maxHeartbeats 4000000 in
set_option maxRecDepth 100000 in
theorem B_times_m {l : Launch} {G : ax_G} {h : List va_E} (a b : Int) (ha : zN a) (hb : zN b) :
    AM l VV G B_times_y B_times_c 2 (some .int) 1 0 0 [.int (iZ a), .int (iZ b)] (h) (fun v h' => v = some (.int (iZ (ztimes a b))) ∧ h' = h) := by
  refine AM.of (pl := pl_B) (by decide) v_good fl_B_ok kl_B_ok nofun (Nat.le_of_ble_eq_true rfl) ?_
  intro p e s m args below meth c X
  refine AW.run X B_times_d 0 7 rfl ?_
  rw [iZ_l (zN_I ha), iZ_l (zN_I hb), lZ_mul, lZ_sar _ 16 (by decide) (zN_mul ha hb).1]
  refine AW.callS (As := [_]) X (B_number_m _ (zN_fd ha hb)) cb_B_24 B_number_st rfl ⟨Nat.le_of_ble_eq_true rfl, Nat.le_of_ble_eq_true rfl⟩ (Nat.le_of_ble_eq_true rfl) ⟨Nat.le_of_ble_eq_true rfl, Nat.le_of_ble_eq_true rfl⟩ (B_times_d.d 7 rfl) (fun v h' q => ?_)
  obtain ⟨rfl, rfl⟩ := q
  exact AW.iret X (B_times_d.d 8 rfl) (Nat.le_of_ble_eq_true rfl) (Nat.le_of_ble_eq_true rfl) ⟨rfl, rfl⟩

def zover (a b : Int) : Int := zk ((a * 65536).fdiv b)
theorem zover_ok {a b : Int} (ha : zN a) (hb : b ≠ 0) : zL (a * 65536) ∧ a * 65536 ≠ -9223372036854775808 ∧ zL ((a * 65536).fdiv b) := by
  have := ha.1
  have := ha.2
  have k := fd_abs (a := a * 65536) hb
  exact ⟨⟨by omega, by omega⟩, by omega, ⟨by omega, by omega⟩⟩
set_option maxHeartbeats 4000000 in
set_option maxRecDepth 100000 in
theorem B_over_m {l : Launch} {G : ax_G} {h : List va_E} (a b : Int) (ha : zN a) (hb : zN b) (h0 : b ≠ 0) :
    AM l VV G B_over_y B_over_c 2 (some .int) 1 0 0 [.int (iZ a), .int (iZ b)] (h) (fun v h' => v = some (.int (iZ (zover a b))) ∧ h' = h) := by
  refine AM.of (pl := pl_B) (by decide) v_good fl_B_ok kl_B_ok nofun (Nat.le_of_ble_eq_true rfl) ?_
  intro p e s m args below meth c X
  refine AW.run X B_over_d 0 1 rfl ?_
  refine AW.if_ne X (B_over_d.d 1 rfl) (fun q1 => ?_) (fun q1 => ?_)
  · refine AW.run X B_over_d 4 6 rfl ?_
    rw [iZ_l (zN_I ha), iZ_l (zN_I hb), show (65536 : Int64) = lZ 65536 from by decide, lZ_mul]
    refine AW.callS (As := [_, _]) X (JMath_floorDiv_m _ b (zover_ok ha h0).1 (zN_L hb) h0 (Or.inl (zover_ok ha h0).2.1)) cb_B_32 JMath_floorDiv_st rfl ⟨Nat.le_of_ble_eq_true rfl, Nat.le_of_ble_eq_true rfl⟩ (Nat.le_of_ble_eq_true rfl) ⟨Nat.le_of_ble_eq_true rfl, Nat.le_of_ble_eq_true rfl⟩ (B_over_d.d 10 rfl) (fun v h' q => ?_)
    obtain ⟨rfl, rfl⟩ := q
    refine AW.callS (As := [_]) X (B_number_m _ (zover_ok ha h0).2.2) cb_B_24 B_number_st rfl ⟨Nat.le_of_ble_eq_true rfl, Nat.le_of_ble_eq_true rfl⟩ (Nat.le_of_ble_eq_true rfl) ⟨Nat.le_of_ble_eq_true rfl, Nat.le_of_ble_eq_true rfl⟩ (B_over_d.d 11 rfl) (fun v h' q => ?_)
    obtain ⟨rfl, rfl⟩ := q
    exact AW.iret X (B_over_d.d 12 rfl) (Nat.le_of_ble_eq_true rfl) (Nat.le_of_ble_eq_true rfl) ⟨rfl, rfl⟩
  · refine AW.run X B_over_d 2 1 rfl ?_
    refine AW.goto X (B_over_d.d 3 rfl) ?_
    exact AW.iret X (B_over_d.d 12 rfl) (Nat.le_of_ble_eq_true rfl) (Nat.le_of_ble_eq_true rfl) (absurd ((iZ_eq (zN_I hb) (b := 0) ⟨by decide, by decide⟩).mp q1) h0)

set_option maxHeartbeats 4000000 in
set_option maxRecDepth 100000 in
theorem B_laid_m {l : Launch} {G : ax_G} {h : List va_E} (x p0 q r s0 : Int) (hx : p0 ≤ x ∧ x ≤ q) (hp : zL p0) (hq : zL q) (hb : q - p0 ≤ 4294967295) (hr : zN r) (hs : zN s0) :
    AM l VV G B_laid_y B_laid_c 10 (some .int) 1 0 0 [.long (lZ x), .long (lZ p0), .long (lZ q), .long (lZ r), .long (lZ s0)] (h) (fun v h' => v = some (.int (iZ (zlaid x p0 q r s0))) ∧ h' = h) := by
  refine AM.of (pl := pl_B) (by decide) v_good fl_B_ok kl_B_ok nofun (Nat.le_of_ble_eq_true rfl) ?_
  intro p e s m args below meth c X
  have hw : (q - p0) * 2147483648 ≤ 9223372036854775807 := by
    have : (q - p0) * 2147483648 ≤ 4294967295 * 2147483648 := Int.mul_le_mul_of_nonneg_right hb (by decide)
    omega
  refine AW.run X B_laid_d 0 3 rfl ?_
  refine AW.if_ne X (B_laid_d.d 3 rfl) (fun q3 => ?_) (fun q3 => ?_)
  · refine AW.run X B_laid_d 7 11 rfl ?_
    have hne : p0 ≠ q := fun z => q3 ((lc_eq hp hq).mpr z)
    obtain ⟨k1, k2, k3⟩ := laid_ok hx hne (by omega) hr hs hw
    rw [lZ_sub, lZ_sub, lZ_sub, lZ_mul]
    refine AW.callS (As := [_, _]) X (JMath_floorDiv_m _ (q - p0) k1 ⟨by omega, by omega⟩ (by omega) (Or.inl k2)) cb_B_32 JMath_floorDiv_st rfl ⟨Nat.le_of_ble_eq_true rfl, Nat.le_of_ble_eq_true rfl⟩ (Nat.le_of_ble_eq_true rfl) ⟨Nat.le_of_ble_eq_true rfl, Nat.le_of_ble_eq_true rfl⟩ (B_laid_d.d 18 rfl) (fun v h' q => ?_)
    obtain ⟨rfl, rfl⟩ := q
    refine AW.run X B_laid_d 19 1 rfl ?_
    rw [lZ_add]
    refine AW.callS (As := [_]) X (B_number_m _ k3) cb_B_24 B_number_st rfl ⟨Nat.le_of_ble_eq_true rfl, Nat.le_of_ble_eq_true rfl⟩ (Nat.le_of_ble_eq_true rfl) ⟨Nat.le_of_ble_eq_true rfl, Nat.le_of_ble_eq_true rfl⟩ (B_laid_d.d 20 rfl) (fun v h' q => ?_)
    obtain ⟨rfl, rfl⟩ := q
    exact AW.iret X (B_laid_d.d 21 rfl) (Nat.le_of_ble_eq_true rfl) (Nat.le_of_ble_eq_true rfl) ⟨by rw [zlaid, if_neg hne], rfl⟩
  · refine AW.run X B_laid_d 4 1 rfl ?_
    refine AW.callS (As := [_]) X (B_number_m r (zN_L hr)) cb_B_24 B_number_st rfl ⟨Nat.le_of_ble_eq_true rfl, Nat.le_of_ble_eq_true rfl⟩ (Nat.le_of_ble_eq_true rfl) ⟨Nat.le_of_ble_eq_true rfl, Nat.le_of_ble_eq_true rfl⟩ (B_laid_d.d 5 rfl) (fun v h' q => ?_)
    obtain ⟨rfl, rfl⟩ := q
    exact AW.iret X (B_laid_d.d 6 rfl) (Nat.le_of_ble_eq_true rfl) (Nat.le_of_ble_eq_true rfl) ⟨by rw [zlaid, if_pos ((lc_eq hp hq).mp q3), zk_id hr], rfl⟩

