/-! SAMPLES, said once for both -/
/-- where input i stands among its samples, in 65,536ths -/
def zst (q : Nat → Int) (i : Nat) (x : Int) : Int := zcut (zlaid (zcut x (q (5 * i)) (q (5 * i + 1))) (q (5 * i)) (q (5 * i + 1)) (q (5 * i + 3)) (q (5 * i + 4))) 0 ((q (5 * i + 2) - 1) * 65536)
theorem zcut_b {v lo hi : Int} (h : lo ≤ hi) : lo ≤ zcut v lo hi ∧ zcut v lo hi ≤ hi := by
  unfold zcut; split
  · exact ⟨Int.le_refl _, h⟩
  · split
    · exact ⟨h, Int.le_refl _⟩
    · exact ⟨by omega, by omega⟩
theorem zst_b {q : Nat → Int} {i : Nat} {x : Int} (h : 1 ≤ q (5 * i + 2)) : 0 ≤ zst q i x ∧ zst q i x ≤ (q (5 * i + 2) - 1) * 65536 := zcut_b (by omega)
/-- the place along input i at corner c; wh: the whole parts -/
def zco (q wh : Nat → Int) (c i : Nat) : Int := if wh i + (c / 2 ^ i % 2 : Nat) < q (5 * i + 2) then wh i + (c / 2 ^ i % 2 : Nat) else q (5 * i + 2) - 1
/-- as the reference counts: (place, step) -/
def zps (q wh : Nat → Int) (c : Nat) : Nat → Int × Int
  | 0 => (0, 1)
  | k + 1 => ((zps q wh c k).1 + (zps q wh c k).2 * zco q wh c k, (zps q wh c k).2 * q (5 * k + 2))
/-- as the class counts: k of the n inputs, from the last -/
def zpd (q wh : Nat → Int) (c n : Nat) : Nat → Int
  | 0 => 0
  | k + 1 => zpd q wh c n k * q (5 * (n - 1 - k) + 2) + zco q wh c (n - 1 - k)
theorem zps_zpd {q wh : Nat → Int} {c n : Nat} (h1 : 1 ≤ n) (h3 : n ≤ 3) : (zps q wh c n).1 = zpd q wh c n n := by
  have : n = 1 ∨ n = 2 ∨ n = 3 := by omega
  rcases this with z | z | z
  · subst z; simp [zps, zpd]
  · subst z; simp [zps, zpd]; rw [Int.mul_comm, Int.add_comm]
  · subst z; simp [zps, zpd]; rw [Int.add_mul, Int.mul_assoc, Int.mul_comm (zco q wh c 2), Int.mul_comm (zco q wh c 1) (q 2), Int.mul_comm (q 2) (q 7 * zco q wh c 2)]; omega
theorem zco_b {q wh : Nat → Int} {c i : Nat} (h : 1 ≤ q (5 * i + 2)) (g : 0 ≤ wh i) : 0 ≤ zco q wh c i ∧ zco q wh c i ≤ q (5 * i + 2) - 1 := by
  unfold zco; split <;> omega
theorem zpd_b {q wh : Nat → Int} {c n : Nat} (h : ∀ i, i < n → 1 ≤ q (5 * i + 2) ∧ 0 ≤ wh i) : ∀ k, k ≤ n → 0 ≤ zpd q wh c n k := by
  intro k
  induction k with
  | zero => intro _; exact Int.le_refl _
  | succ k ih =>
    intro l
    have a := h (n - 1 - k) (by omega)
    have b := zco_b (c := c) a.1 a.2
    have m := Int.mul_nonneg (ih (by omega)) (show 0 ≤ q (5 * (n - 1 - k) + 2) by omega)
    show 0 ≤ zpd q wh c n k * q (5 * (n - 1 - k) + 2) + zco q wh c (n - 1 - k)
    omega
/-- the product of the sizes of the first k inputs -/
def zsz (q : Nat → Int) : Nat → Int
  | 0 => 1
  | k + 1 => zsz q k * q (5 * k + 2)
theorem zps_2 (q wh : Nat → Int) (c : Nat) : ∀ k, (zps q wh c k).2 = zsz q k := by
  intro k
  induction k with
  | zero => rfl
  | succ k ih => show (zps q wh c k).2 * _ = zsz q k * _; rw [ih]
theorem zsz_p {q : Nat → Int} {n : Nat} (h : ∀ i, i < n → 1 ≤ q (5 * i + 2) ∧ q (5 * i + 2) ≤ 64) : ∀ k, k ≤ n → 1 ≤ zsz q k ∧ zsz q k ≤ 64 ^ k := by
  intro k
  induction k with
  | zero => intro _; exact ⟨Int.le_refl _, Int.le_refl _⟩
  | succ k ih =>
    intro l
    have a := h k (by omega)
    have b := ih (by omega)
    show 1 ≤ zsz q k * q (5 * k + 2) ∧ zsz q k * q (5 * k + 2) ≤ _
    refine ⟨?_, ?_⟩
    · have := Int.mul_le_mul b.1 a.1 (by decide) (by omega)
      omega
    · rw [Int.pow_succ]
      exact Int.mul_le_mul b.2 a.2 (by omega) (by omega)
theorem zps_b {q wh : Nat → Int} {c n : Nat} (h : ∀ i, i < n → (1 ≤ q (5 * i + 2) ∧ q (5 * i + 2) ≤ 64) ∧ 0 ≤ wh i) : ∀ k, k ≤ n → 0 ≤ (zps q wh c k).1 ∧ (zps q wh c k).1 ≤ zsz q k - 1 := by
  intro k
  induction k with
  | zero => intro _; exact ⟨Int.le_refl _, Int.le_refl _⟩
  | succ k ih =>
    intro l
    have a := h k (by omega)
    have b := ih (by omega)
    have d := zco_b (c := c) a.1.1 a.2
    have s := (zsz_p (n := n) (fun i l => (h i l).1) k (by omega)).1
    show 0 ≤ (zps q wh c k).1 + (zps q wh c k).2 * zco q wh c k ∧ (zps q wh c k).1 + (zps q wh c k).2 * zco q wh c k ≤ zsz q k * q (5 * k + 2) - 1
    rw [zps_2]
    have m1 := Int.mul_nonneg (show 0 ≤ zsz q k by omega) d.1
    have m2 := Int.mul_le_mul_of_nonneg_left (show zco q wh c k ≤ q (5 * k + 2) - 1 from d.2) (show 0 ≤ zsz q k by omega)
    rw [Int.mul_sub, Int.mul_one] at m2
    omega
/-- the number that w bits from f on make -/
def zsm (bt : Nat → Int) (f : Nat) : Nat → Int
  | 0 => 0
  | k + 1 => zsm bt f k * 2 + bt (f + k)
theorem zsm_b {bt : Nat → Int} (h : ∀ p, 0 ≤ bt p ∧ bt p ≤ 1) (f : Nat) : ∀ k, 0 ≤ zsm bt f k ∧ zsm bt f k ≤ 2 ^ k - 1 := by
  intro k
  induction k with
  | zero => exact ⟨Int.le_refl _, Int.le_refl _⟩
  | succ k ih =>
    have := h (f + k)
    show 0 ≤ zsm bt f k * 2 + bt (f + k) ∧ zsm bt f k * 2 + bt (f + k) ≤ 2 ^ (k + 1) - 1
    rw [Int.pow_succ]
    omega
/-- the samples about a place, one input after the other done away with -/
def zlv (R : Nat → Int) (L : Nat → Int) : Nat → Nat → Int
  | 0, c => L c
  | i + 1, c => zlv R L i (2 * c) + ((zlv R L i (2 * c + 1) - zlv R L i (2 * c)) * R i) / 65536
theorem zmid {a b r H : Int} (ha : 0 ≤ a ∧ a ≤ H) (hb : 0 ≤ b ∧ b ≤ H) (hr : 0 ≤ r ∧ r < 65536) : 0 ≤ a + (b - a) * r / 65536 ∧ a + (b - a) * r / 65536 ≤ H := by
  rcases Int.le_total a b with z | z
  · have m1 := Int.mul_nonneg (show 0 ≤ b - a by omega) hr.1
    have m2 := Int.mul_le_mul_of_nonneg_left (show r ≤ 65536 by omega) (show 0 ≤ b - a by omega)
    generalize (b - a) * r = t at *
    omega
  · have m1 := Int.mul_nonneg (show 0 ≤ a - b by omega) hr.1
    have m2 := Int.mul_le_mul_of_nonneg_left (show r ≤ 65536 by omega) (show 0 ≤ a - b by omega)
    have e : (b - a) * r = -((a - b) * r) := by rw [← Int.neg_mul, Int.neg_sub]
    rw [e]
    generalize (a - b) * r = t at *
    omega
theorem zlv_b {R L : Nat → Int} {H : Int} (hL : ∀ c, 0 ≤ L c ∧ L c ≤ H) (n : Nat) (hR : ∀ i, i < n → 0 ≤ R i ∧ R i < 65536) : ∀ i, i ≤ n → ∀ c, 0 ≤ zlv R L i c ∧ zlv R L i c ≤ H := by
  intro i
  induction i with
  | zero => intro _ c; exact hL c
  | succ i ih =>
    intro l c
    exact zmid (ih (by omega) (2 * c)) (ih (by omega) (2 * c + 1)) (hR i (by omega))
/-- output o of a function of n inputs and m outputs told by q, whose samples' bits are bt, at x -/
def zS0 (q bt : Nat → Int) (n m o : Nat) (x : Nat → Int) (c : Nat) : Int := zsm bt (((zps q (fun i => zst q i (x i) / 65536) c n).1.toNat * m + o) * (q (5 * n)).toNat) (q (5 * n)).toNat * 65536
def zS1 (q bt : Nat → Int) (n m o : Nat) (x : Nat → Int) : Int := zlv (fun i => zst q i (x i) % 65536) (zS0 q bt n m o x) n 0
def zSm (q bt : Nat → Int) (n m o : Nat) (x : Nat → Int) : Int := zcut (zlaid (zS1 q bt n m o x) 0 ((2 ^ (q (5 * n)).toNat - 1) * 65536) (q (5 * n + 1 + 4 * o + 2)) (q (5 * n + 1 + 4 * o + 3))) (q (5 * n + 1 + 4 * o)) (q (5 * n + 1 + 4 * o + 1))
theorem zS1_b {q bt : Nat → Int} {n m o : Nat} {x : Nat → Int} (h : ∀ p, 0 ≤ bt p ∧ bt p ≤ 1) : 0 ≤ zS1 q bt n m o x ∧ zS1 q bt n m o x ≤ (2 ^ (q (5 * n)).toNat - 1) * 65536 := by
  refine zlv_b (fun c => ?_) n (fun i _ => ⟨Int.emod_nonneg _ (by decide), Int.emod_lt_of_pos _ (by decide)⟩) n (Nat.le_refl _) 0
  have := zsm_b h (((zps q (fun i => zst q i (x i) / 65536) c n).1.toNat * m + o) * (q (5 * n)).toNat) (q (5 * n)).toNat
  unfold zS0
  omega
