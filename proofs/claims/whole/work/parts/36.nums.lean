/-! numbers: iZ z, lZ z: the int, the long of a whole number z -/
def iZ (z : Int) : Int32 := Int32.ofInt z
def lZ (z : Int) : Int64 := Int64.ofInt z
theorem iZ_of (x : Int32) : x = iZ x.toInt := (Int32.ofInt_toInt x).symm
theorem lZ_of (x : Int64) : x = lZ x.toInt := (Int64.ofInt_toInt x).symm
theorem iZ_n (n : Nat) : nI n = iZ n := Int32.ofInt_eq_ofNat.symm
theorem lZ_n (n : Nat) : lN n = lZ n := Int64.ofInt_eq_ofNat.symm
theorem iZ_add (a b : Int) : iZ a + iZ b = iZ (a + b) := (Int32.ofInt_add a b).symm
theorem iZ_sub (a b : Int) : iZ a - iZ b = iZ (a - b) := (Int32.ofInt_sub a b).symm
theorem iZ_mul (a b : Int) : iZ a * iZ b = iZ (a * b) := (Int32.ofInt_mul a b).symm
theorem iZ_neg (a : Int) : -iZ a = iZ (-a) := (Int32.ofInt_neg a).symm
theorem lZ_add (a b : Int) : lZ a + lZ b = lZ (a + b) := (Int64.ofInt_add a b).symm
theorem lZ_sub (a b : Int) : lZ a - lZ b = lZ (a - b) := (Int64.ofInt_sub a b).symm
theorem lZ_mul (a b : Int) : lZ a * lZ b = lZ (a * b) := (Int64.ofInt_mul a b).symm
theorem lZ_neg (a : Int) : -lZ a = lZ (-a) := (Int64.ofInt_neg a).symm
def zI (z : Int) : Prop := -2147483648 ≤ z ∧ z < 2147483648
def zL (z : Int) : Prop := -9223372036854775808 ≤ z ∧ z < 9223372036854775808
theorem iZ_t {z : Int} (h : zI z) : (iZ z).toInt = z := Int32.toInt_ofInt_of_le (by have := h.1; omega) (by have := h.2; omega)
theorem lZ_t {z : Int} (h : zL z) : (lZ z).toInt = z := Int64.toInt_ofInt_of_le (by have := h.1; omega) (by have := h.2; omega)
theorem zI_i (x : Int32) : zI x.toInt := ⟨by have := x.le_toInt; omega, by have := x.toInt_lt; omega⟩
theorem zL_l (x : Int64) : zL x.toInt := ⟨by have := x.le_toInt; omega, by have := x.toInt_lt; omega⟩
theorem iZ_le {a b : Int} (ha : zI a) (hb : zI b) : iZ a ≤ iZ b ↔ a ≤ b := by rw [Int32.le_iff_toInt_le, iZ_t ha, iZ_t hb]
theorem iZ_lt {a b : Int} (ha : zI a) (hb : zI b) : iZ a < iZ b ↔ a < b := by rw [Int32.lt_iff_toInt_lt, iZ_t ha, iZ_t hb]
theorem iZ_eq {a b : Int} (ha : zI a) (hb : zI b) : iZ a = iZ b ↔ a = b := by rw [← Int32.toInt_inj, iZ_t ha, iZ_t hb]
theorem lZ_le {a b : Int} (ha : zL a) (hb : zL b) : lZ a ≤ lZ b ↔ a ≤ b := by rw [Int64.le_iff_toInt_le, lZ_t ha, lZ_t hb]
theorem lZ_lt {a b : Int} (ha : zL a) (hb : zL b) : lZ a < lZ b ↔ a < b := by rw [Int64.lt_iff_toInt_lt, lZ_t ha, lZ_t hb]
theorem lZ_eq {a b : Int} (ha : zL a) (hb : zL b) : lZ a = lZ b ↔ a = b := by rw [← Int64.toInt_inj, lZ_t ha, lZ_t hb]
theorem iZ_l {z : Int} (h : zI z) : (iZ z).toInt64 = lZ z := Int64.toInt_inj.mp (by rw [Int32.toInt_toInt64, iZ_t h, lZ_t ⟨by have := h.1; omega, by have := h.2; omega⟩])
theorem lZ_i (z : Int) : (lZ z).toInt32 = iZ z := Int64.toInt32_ofInt
theorem i_l (x : Int32) : x.toInt64 = lZ x.toInt := by
  have h := iZ_l (zI_i x)
  rw [← iZ_of] at h
  exact h
theorem lZ_div {a b : Int} (ha : zL a) (hb : zL b) (hn : a ≠ -9223372036854775808 ∨ b ≠ -1) : lZ a / lZ b = lZ (a.tdiv b) := by
  apply Int64.toInt_inj.mp
  have hq : zL (a.tdiv b) := by
    rcases Int.lt_or_le b 2 with h2 | h2
    · rcases Int.lt_or_le (-2) b with h3 | h3
      · have : b = -1 ∨ b = 0 ∨ b = 1 := by omega
        rcases this with rfl | rfl | rfl
        · rw [Int.tdiv_neg, Int.tdiv_one]
          have := ha.1
          have := ha.2
          exact ⟨by omega, by omega⟩
        · rw [Int.tdiv_zero]; exact ⟨by decide, by decide⟩
        · rw [Int.tdiv_one]; exact ha
      · have h4 := Int.natAbs_tdiv_le_natAbs a b
        have := ha.1
        have := ha.2
        have h5 : (a.tdiv b).natAbs ≤ a.natAbs / 2 := by
          rw [Int.natAbs_tdiv]
          exact Nat.div_le_div_left (by omega) (by decide)
        exact ⟨by omega, by omega⟩
    · have := ha.1
      have := ha.2
      have h5 : (a.tdiv b).natAbs ≤ a.natAbs / 2 := by
        rw [Int.natAbs_tdiv]
        exact Nat.div_le_div_left (by omega) (by decide)
      exact ⟨by omega, by omega⟩
  rw [Int64.toInt_div, lZ_t ha, lZ_t hb, lZ_t hq, Int.bmod_def]
  have := hq.1
  have := hq.2
  omega
theorem lZ_c0 : (Int64.ofNat ((0 : Fin 2) : Nat)) = lZ 0 := by decide
theorem lZ_c1 : (Int64.ofNat ((1 : Fin 2) : Nat)) = lZ 1 := by decide
/-- a truth as an int -/
def bI (c : Bool) : Int32 := if c then 1 else 0
theorem bI_nar (c : Bool) : narrow .boolean (.int (bI c)) = .int (bI c) := by cases c <;> decide
theorem n_0 : narrow .boolean (.int (Int32.ofInt 0)) = .int (Int32.ofInt 0) := by decide
theorem n_1 : narrow .boolean (.int (Int32.ofInt 1)) = .int (Int32.ofInt 1) := by decide
theorem bI_t {c : Bool} (h : c = true) : Int32.ofInt 1 = bI c := by rw [h]; decide
theorem bI_f {c : Bool} (h : c = false) : Int32.ofInt 0 = bI c := by rw [h]; decide
theorem bI_0 (c : Bool) : bI c = 0 ↔ c = false := by cases c <;> decide
theorem bI_z (c : Bool) : bI c = 0 ↔ ¬ c = true := by cases c <;> decide
