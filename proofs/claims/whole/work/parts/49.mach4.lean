def rv {α : Type} (a b : Nat) (f : Nat → α) : Nat → α := fun j => if a ≤ j ∧ j < b then f (a + b - 1 - j) else f j
def rvi {α : Type} (a b i : Nat) (f : Nat → α) : Nat → α := fun j => if (a ≤ j ∧ j < a + i) ∨ (b - i ≤ j ∧ j < b ∧ a ≤ j) then f (a + b - 1 - j) else f j
theorem rvi_0 {α : Type} (a b : Nat) (f : Nat → α) : rvi a b 0 f = f := by
  funext j
  unfold rvi
  rw [if_neg (by omega)]
theorem rvi_e {α : Type} {a b i : Nat} {f : Nat → α} (h : (b : Int) - 1 - i ≤ a + i) (hi : 2 * i ≤ b - a + 1) (hab : a ≤ b) : rvi a b i f = rv a b f := by
  funext j
  unfold rvi rv
  by_cases z : a ≤ j ∧ j < b
  · rw [if_pos z]
    by_cases y : (a ≤ j ∧ j < a + i) ∨ (b - i ≤ j ∧ j < b ∧ a ≤ j)
    · rw [if_pos y]
    · rw [if_neg y]
      congr 1
      omega
  · rw [if_neg z, if_neg (by omega)]
theorem rvi_s {a b i : Nat} {f : Nat → Int32} (h : a + i < b - 1 - i) : upd (upd (rvi a b i f) (a + i) (rvi a b i f (b - 1 - i))) (b - 1 - i) (rvi a b i f (a + i)) = rvi a b (i + 1) f := by
  funext j
  have e1 : rvi a b i f (b - 1 - i) = f (b - 1 - i) := by unfold rvi; rw [if_neg (by omega)]
  have e2 : rvi a b i f (a + i) = f (a + i) := by unfold rvi; rw [if_neg (by omega)]
  rw [e1, e2]
  by_cases z : j = b - 1 - i
  · rw [z, upd_s]; unfold rvi; rw [if_pos (by omega)]; congr 1; omega
  · rw [upd_n z]
    by_cases y : j = a + i
    · rw [y, upd_s]; unfold rvi; rw [if_pos (by omega)]; congr 1; omega
    · rw [upd_n y]
      unfold rvi
      by_cases x : (a ≤ j ∧ j < a + i) ∨ (b - i ≤ j ∧ j < b ∧ a ≤ j)
      · rw [if_pos x, if_pos (by omega)]
      · rw [if_neg x, if_neg (by omega)]
theorem rvi_n {α : Type} {a b i j : Nat} {f : Nat → α} (h : a + i ≤ j) (g : j < b - i) : rvi a b i f j = f j := by unfold rvi; rw [if_neg (by omega)]
theorem x_An (S : x_S) {k k' : Nat} (f : Nat → Int32) (h : k' ≠ k) : (x_A S k f).2.1 k' = S.2.1 k' := va_up_ne _ _ h
theorem kt_rv (S : x_S) (f g : Nat → Int32) : (x_A (x_A S 12 f) 13 g).2.1 12 = f := by rw [x_An _ _ (by decide), x_Ag]
theorem kt_rt (S : x_S) (f g : Nat → Int32) : (x_A (x_A S 12 f) 13 g).2.1 13 = g := by rw [x_Ag]
theorem kt_v (S : x_S) (f g : Nat → Int32) (j : Nat) (x : Int32) : x_a (x_A (x_A S 12 f) 13 g) 12 j x = x_A (x_A S 12 (upd f j x)) 13 g := by
  have e : ∀ A : Nat → Nat → Int32, va_up (va_up (va_up A 12 f) 13 g) 12 (upd f j x) = va_up (va_up A 12 (upd f j x)) 13 g := by
    intro A
    funext k
    by_cases h : k = 12
    · subst h; rw [va_up_self, va_up_ne _ _ (by decide), va_up_self]
    · by_cases h2 : k = 13
      · subst h2; rw [va_up_ne _ _ (by decide), va_up_self, va_up_self]
      · rw [va_up_ne _ _ h, va_up_ne _ _ h2, va_up_ne _ _ h, va_up_ne _ _ h2, va_up_ne _ _ h]
  unfold x_a
  rw [kt_rv]
  exact congrArg (fun z => (S.1, z, S.2.2)) (e S.2.1)
theorem kt_t (S : x_S) (f g : Nat → Int32) (j : Nat) (x : Int32) : x_a (x_A (x_A S 12 f) 13 g) 13 j x = x_A (x_A S 12 f) 13 (upd g j x) := by
  unfold x_a
  rw [kt_rt]
  exact congrArg (fun z => (S.1, z, S.2.2)) (bx_uu _ _ _ _)
theorem kt_s (S : x_S) (f g f' g' : Nat → Int32) : x_A (x_A (x_A (x_A S 12 f) 13 g) 12 f') 13 g' = x_A (x_A S 12 f') 13 g' := by
  have e : ∀ A : Nat → Nat → Int32, va_up (va_up (va_up (va_up A 12 f) 13 g) 12 f') 13 g' = va_up (va_up A 12 f') 13 g' := by
    intro A
    funext k
    by_cases h2 : k = 13
    · subst h2; rw [va_up_self, va_up_self]
    · rw [va_up_ne _ _ h2, va_up_ne _ _ h2]
      by_cases h : k = 12
      · subst h; rw [va_up_self, va_up_self]
      · rw [va_up_ne _ _ h, va_up_ne _ _ h, va_up_ne _ _ h2, va_up_ne _ _ h]
  exact congrArg (fun z => (S.1, z, S.2.2)) (e S.2.1)
theorem rv_st (S : x_S) {a b i : Nat} (h : a + i < b - 1 - i) (hz : ∀ j, a ≤ j → j < b → vp_nar .boolean (S.2.1 13 j) = S.2.1 13 j) :
    x_a (x_a (x_a (x_a (x_A (x_A S 12 (rvi a b i (S.2.1 12))) 13 (rvi a b i (S.2.1 13))) 12 (a + i) ((x_A (x_A S 12 (rvi a b i (S.2.1 12))) 13 (rvi a b i (S.2.1 13))).2.1 12 (b - 1 - i))) 13 (a + i) (vp_nar .boolean ((x_a (x_A (x_A S 12 (rvi a b i (S.2.1 12))) 13 (rvi a b i (S.2.1 13))) 12 (a + i) ((x_A (x_A S 12 (rvi a b i (S.2.1 12))) 13 (rvi a b i (S.2.1 13))).2.1 12 (b - 1 - i))).2.1 13 (b - 1 - i)))) 12 (b - 1 - i) ((x_A (x_A S 12 (rvi a b i (S.2.1 12))) 13 (rvi a b i (S.2.1 13))).2.1 12 (a + i))) 13 (b - 1 - i) (vp_nar .boolean ((x_A (x_A S 12 (rvi a b i (S.2.1 12))) 13 (rvi a b i (S.2.1 13))).2.1 13 (a + i))) = x_A (x_A S 12 (rvi a b (i + 1) (S.2.1 12))) 13 (rvi a b (i + 1) (S.2.1 13)) := by
  simp only [kt_v, kt_t, kt_rv, kt_rt]
  rw [← rvi_s (f := S.2.1 12) h, ← rvi_s (f := S.2.1 13) h]
  have z1 : vp_nar .boolean (rvi a b i (S.2.1 13) (b - 1 - i)) = rvi a b i (S.2.1 13) (b - 1 - i) := by rw [rvi_n (by omega) (by omega)]; exact hz _ (by omega) (by omega)
  have z2 : vp_nar .boolean (rvi a b i (S.2.1 13) (a + i)) = rvi a b i (S.2.1 13) (a + i) := by rw [rvi_n (by omega) (by omega)]; exact hz _ (by omega) (by omega)
  rw [z1, z2]
theorem rv_zz {S : x_S} {a r a' b' : Nat} (hz : ∀ j, a ≤ j → j < r → vp_nar .boolean (S.2.1 13 j) = S.2.1 13 j) (h1 : a ≤ a') (h2 : b' ≤ r) : ∀ j, a ≤ j → j < r → vp_nar .boolean ((x_A (x_A S 12 (rv a' b' (S.2.1 12))) 13 (rv a' b' (S.2.1 13))).2.1 13 j) = (x_A (x_A S 12 (rv a' b' (S.2.1 12))) 13 (rv a' b' (S.2.1 13))).2.1 13 j := by
  intro j g1 g2
  rw [kt_rt]
  unfold rv
  split
  · exact hz _ (by omega) (by omega)
  · exact hz j g1 g2
theorem rv_prt {α : Type} {a k r : Nat} (f : Nat → α) (h : a + k ≤ r) : rv (a + k) r (rv a (a + k) (rv a r f)) = prt r (r - a) k f := by
  funext j
  unfold rv prt
  by_cases z : a + k ≤ j ∧ j < r
  · rw [if_pos z, if_neg (by omega), if_pos (by omega), if_pos (by omega), if_pos (by omega)]
    congr 1
    omega
  · rw [if_neg z]
    by_cases y : a ≤ j ∧ j < a + k
    · rw [if_pos y, if_pos (by omega), if_pos (by omega), if_neg (by omega)]
      congr 1
      omega
    · rw [if_neg y, if_neg (by omega), if_neg (by omega)]
theorem rv_3 (S : x_S) {a k r : Nat} (h : a + k ≤ r) : x_A (x_A (x_A (x_A (x_A (x_A S 12 (rv a r (S.2.1 12))) 13 (rv a r (S.2.1 13))) 12 (rv a (a + k) ((x_A (x_A S 12 (rv a r (S.2.1 12))) 13 (rv a r (S.2.1 13))).2.1 12))) 13 (rv a (a + k) ((x_A (x_A S 12 (rv a r (S.2.1 12))) 13 (rv a r (S.2.1 13))).2.1 13))) 12 (rv (a + k) r ((x_A (x_A (x_A (x_A S 12 (rv a r (S.2.1 12))) 13 (rv a r (S.2.1 13))) 12 (rv a (a + k) ((x_A (x_A S 12 (rv a r (S.2.1 12))) 13 (rv a r (S.2.1 13))).2.1 12))) 13 (rv a (a + k) ((x_A (x_A S 12 (rv a r (S.2.1 12))) 13 (rv a r (S.2.1 13))).2.1 13))).2.1 12))) 13 (rv (a + k) r ((x_A (x_A (x_A (x_A S 12 (rv a r (S.2.1 12))) 13 (rv a r (S.2.1 13))) 12 (rv a (a + k) ((x_A (x_A S 12 (rv a r (S.2.1 12))) 13 (rv a r (S.2.1 13))).2.1 12))) 13 (rv a (a + k) ((x_A (x_A S 12 (rv a r (S.2.1 12))) 13 (rv a r (S.2.1 13))).2.1 13))).2.1 13)) = x_A (x_A S 12 (prt r (r - a) k (S.2.1 12))) 13 (prt r (r - a) k (S.2.1 13)) := by
  simp only [kt_rv, kt_rt, kt_s]
  rw [rv_prt _ h, rv_prt _ h]
theorem ix_neg (x y : Int32) : (x ^^^ y).toInt < 0 ↔ ¬ (x.toInt < 0 ↔ y.toInt < 0) := by
  have h1 := BitVec.msb_eq_toInt (x := x.toBitVec)
  have h2 := BitVec.msb_eq_toInt (x := y.toBitVec)
  have h3 := BitVec.msb_eq_toInt (x := (x ^^^ y).toBitVec)
  rw [Int32.toBitVec_xor, BitVec.msb_xor, h1, h2] at h3
  have h4 : decide ((x ^^^ y).toInt < 0) = (decide (x.toInt < 0) ^^ decide (y.toInt < 0)) := by
    exact h3.symm
  by_cases a : x.toInt < 0 <;> by_cases b : y.toInt < 0 <;> simp [a, b] at h4 ⊢ <;> omega
theorem fm_a {a b : Int} (ha : -16384 ≤ a ∧ a ≤ 16384) (hb : 0 < b ∧ b ≤ 16384) : 0 ≤ iZ a ^^^ iZ b ↔ 0 ≤ a := by
  have h := ix_neg (iZ a) (iZ b)
  rw [iZ_t ⟨by omega, by omega⟩, iZ_t ⟨by omega, by omega⟩] at h
  rw [Int32.le_iff_toInt_le, show (0 : Int32).toInt = 0 from rfl]
  constructor
  · intro z
    by_cases y : 0 ≤ a
    · exact y
    · have := h.mpr (fun w => by have := w.mp (by omega); omega); omega
  · intro z
    by_cases y : 0 ≤ (iZ a ^^^ iZ b).toInt
    · exact y
    · exact absurd (show a < 0 ↔ b < 0 by omega) (h.mp (by omega))
theorem fm_p {a b : Int} (ha : -16384 ≤ a ∧ a ≤ 16384) (hb : 0 < b ∧ b ≤ 16384) (q : 0 ≤ iZ a ^^^ iZ b) : a.tmod b = a % b := Int.tmod_eq_emod_of_nonneg ((fm_a ha hb).mp q)
theorem fm_z {a b : Int} (ha : -16384 ≤ a ∧ a ≤ 16384) (hb : 0 < b ∧ b ≤ 16384) (q : iZ (a.tmod b) = 0) : a.tmod b = a % b := by
  have h1 : a.tmod b = 0 := (iZ_eq (b := 0) (zI_tmod ha ⟨by omega, by omega⟩) ⟨by decide, by decide⟩).mp q
  rw [h1, Int.emod_eq_zero_of_dvd (Int.dvd_of_tmod_eq_zero h1)]
theorem fm_n {a b : Int} (ha : -16384 ≤ a ∧ a ≤ 16384) (hb : 0 < b ∧ b ≤ 16384) (q : ¬ 0 ≤ iZ a ^^^ iZ b) (q2 : ¬ iZ (a.tmod b) = 0) : a.tmod b + b = a % b := by
  have h0 : a < 0 := by have := mt (fm_a ha hb).mpr q; omega
  have h1 : a.tmod b ≠ 0 := fun z => q2 (by rw [z]; rfl)
  have h2 := Int.emod_nonneg a (show b ≠ 0 by omega)
  have h3 := Int.emod_lt_of_pos a hb.1
  have h4 := Int.mul_tdiv_add_tmod a b
  have h5 := Int.mul_ediv_add_emod a b
  have h6 : (a.tmod b).natAbs < b.natAbs := by rw [Int.natAbs_tmod]; exact Nat.mod_lt _ (by omega)
  have h7 : a.tmod b ≤ 0 := by
    have w := Int.neg_tmod (-a) b
    rw [Int.neg_neg] at w
    have w2 := Int.tmod_nonneg (a := -a) b (by omega)
    omega
  have e : b * (a.tdiv b) - b * (a / b) = a % b - a.tmod b := by omega
  rw [← Int.mul_sub] at e
  have h8 : a.tdiv b - a / b = 1 := by
    have h9 : 0 < b * (a.tdiv b - a / b) := by omega
    have h10 : b * (a.tdiv b - a / b) < b * 2 := by omega
    have h12 : 0 < a.tdiv b - a / b := by
      rcases Int.lt_or_le 0 (a.tdiv b - a / b) with w | w
      · exact w
      · have := Int.mul_nonpos_of_nonneg_of_nonpos (show 0 ≤ b by omega) w; omega
    have h13 : a.tdiv b - a / b < 2 := Int.lt_of_mul_lt_mul_left h10 (by omega)
    omega
  rw [h8, Int.mul_one] at e
  omega
theorem bI_fit (b : Bool) : fits .boolean (.int (bI b)) = true := by cases b <;> decide
theorem ks_xc {S : x_S} {n : Nat} {u : Nat → Int} {t : Nat → Bool} (hK : KS S n u t) (hn : 2 ≤ n) : KS (x_A (x_A S 12 (rv (n - 2) n (S.2.1 12))) 13 (rv (n - 2) n (S.2.1 13))) n (pxc n u) (pxc n t) := by
  refine ⟨hK.1, fun j hj => ?_⟩
  rw [kt_rv, kt_rt]
  unfold rv pxc
  by_cases h : j = n - 2
  · have z : n - 2 ≤ j ∧ j < n := by omega
    rw [if_pos z, if_pos z, if_pos h, if_pos h, show n - 2 + n - 1 - j = n - 1 by omega]
    exact hK.2 _ (by omega)
  · by_cases h2 : j = n - 1
    · have z : n - 2 ≤ j ∧ j < n := by omega
      rw [if_pos z, if_pos z, if_neg h, if_neg h, if_pos h2, if_pos h2, show n - 2 + n - 1 - j = n - 2 by omega]
      exact hK.2 _ (by omega)
    · have z : ¬ (n - 2 ≤ j ∧ j < n) := by omega
      rw [if_neg z, if_neg z, if_neg h, if_neg h, if_neg h2, if_neg h2]
      exact hK.2 j hj
theorem kp_roll0 {S : x_S} {tl : List va_E} {n : Nat} {u : Nat → Int} {t : Nat → Bool} {num : Int} (hK : KS S n u t) (hn : 2 ≤ n) (hp : pwh2 n u t = -1) (hm : u (n - 2) / 65536 = 0) (hW : WS n u t) : kp S tl (pS 36 num n u t) (some (.int (Int32.ofInt (-1)))) (x_hC (x_i S 9 (nI (n - 2))) tl) := by
  have e : pS 36 num n u t = (-1, n - 2, u, t) := by
    rw [pS_36]
    unfold proll
    rw [if_neg (by omega), if_neg (fun z => z hp), if_neg (by omega), if_neg (by omega), hm]
    congr 3
    · funext j; unfold prt; rw [if_neg (by have : (0 : Int).toNat = 0 := rfl; omega)]
    · funext j; unfold prt; rw [if_neg (by have : (0 : Int).toNat = 0 := rfl; omega)]
  rw [e]
  exact ⟨rfl, _, rfl, KF.i _ _, fun _ => ⟨x_ig _ _ _, fun j hj => hK.2 j (by have : j < n - 2 := hj; omega)⟩⟩
theorem kp_roll {S : x_S} {tl : List va_E} {n : Nat} {u : Nat → Int} {t : Nat → Bool} {num : Int} (hK : KS S n u t) (hn : 2 ≤ n) (hp : pwh2 n u t = -1) (hm : 0 < u (n - 2) / 65536) (hm2 : u (n - 2) / 65536 ≤ (n : Int) - 2) (hW : WS n u t) : kp S tl (pS 36 num n u t) (some (.int (Int32.ofInt (-1)))) (x_hC (x_A (x_A (x_i S 9 (nI (n - 2))) 12 (prt (n - 2) (n - 2 - (n - 2 - (u (n - 2) / 65536).toNat)) (u (n - 1) / 65536 % (u (n - 2) / 65536)).toNat (S.2.1 12))) 13 (prt (n - 2) (n - 2 - (n - 2 - (u (n - 2) / 65536).toNat)) (u (n - 1) / 65536 % (u (n - 2) / 65536)).toNat (S.2.1 13))) tl) := by
  have hk1 := Int.emod_nonneg (u (n - 1) / 65536) (show u (n - 2) / 65536 ≠ 0 by omega)
  have hk2 := Int.emod_lt_of_pos (u (n - 1) / 65536) hm
  rw [pS_36]
  unfold proll
  rw [if_neg (by omega), if_neg (fun z => z hp), if_neg (by omega), if_neg (by omega)]
  generalize (u (n - 1) / 65536 % (u (n - 2) / 65536)) = K at *
  generalize (u (n - 2) / 65536) = M at *
  rw [show n - 2 - (n - 2 - M.toNat) = M.toNat by omega]
  refine ⟨rfl, _, rfl, ((KF.i _ _).trans (KF.V _ _)).trans (KF.T _ _), fun _ => ⟨show (x_i S 9 (nI (n - 2))).1 9 = _ from x_ig _ _ _, fun j hj => ?_⟩⟩
  have hj : j < n - 2 := hj
  rw [kt_rv, kt_rt]
  show prt (n - 2) M.toNat K.toNat (S.2.1 12) j = iZ (prt (n - 2) M.toNat K.toNat u j) ∧ prt (n - 2) M.toNat K.toNat (S.2.1 13) j = bI (prt (n - 2) M.toNat K.toNat t j)
  unfold prt
  by_cases z : n - 2 - M.toNat ≤ j ∧ j < n - 2
  · rw [if_pos z, if_pos z, if_pos z, if_pos z]
    by_cases y : n - 2 - M.toNat + K.toNat ≤ j
    · rw [if_pos y, if_pos y, if_pos y, if_pos y]; exact hK.2 _ (by omega)
    · rw [if_neg y, if_neg y, if_neg y, if_neg y]; exact hK.2 _ (by omega)
  · rw [if_neg z, if_neg z, if_neg z, if_neg z]; exact hK.2 j (by omega)
theorem kp_copy {S : x_S} {tl : List va_E} {n : Nat} {u : Nat → Int} {t : Nat → Bool} {num : Int} (hK : KS S n u t) (hn : 1 ≤ n) (hp : pwh1 n u t = -1) (h0 : 0 ≤ u (n - 1) / 65536) (h1 : n - 1 + (u (n - 1) / 65536).toNat ≤ 60) (h2 : u (n - 1) / 65536 ≤ (n : Int) - 1) : kp S tl (pS 34 num n u t) (some (.int (iZ (-1)))) (x_hC (x_i (x_A (x_A S 12 (va_cpy (S.2.1 12) (S.2.1 12) (n - 1 - (u (n - 1) / 65536).toNat) (n - 1) (u (n - 1) / 65536).toNat)) 13 (va_cpy (S.2.1 13) (S.2.1 13) (n - 1 - (u (n - 1) / 65536).toNat) (n - 1) (u (n - 1) / 65536).toNat)) 9 (nI (n - 1 + (u (n - 1) / 65536).toNat))) tl) := by
  rw [pS_34]
  unfold pcopy
  rw [if_neg (by omega), if_neg (fun z => z hp), if_neg (by omega), if_neg (by omega), if_neg (by omega)]
  generalize (u (n - 1) / 65536) = M at *
  refine ⟨rfl, _, rfl, ((KF.V _ _).trans (KF.T _ _)).trans (KF.i _ _), fun _ => ⟨x_ig _ _ _, fun j hj => ?_⟩⟩
  have hj : j < n - 1 + M.toNat := hj
  show (x_A (x_A S 12 _) 13 _).2.1 12 j = _ ∧ (x_A (x_A S 12 _) 13 _).2.1 13 j = _
  rw [kt_rv, kt_rt]
  show va_cpy _ _ _ _ _ j = iZ (pcp (n - 1) M.toNat u j) ∧ va_cpy _ _ _ _ _ j = bI (pcp (n - 1) M.toNat t j)
  unfold va_cpy pcp
  by_cases z : n - 1 ≤ j ∧ j < n - 1 + M.toNat
  · rw [if_pos z, if_pos z, if_pos z, if_pos z, show n - 1 - M.toNat + (j - (n - 1)) = j - M.toNat by omega]; exact hK.2 _ (by omega)
  · rw [if_neg z, if_neg z, if_neg z, if_neg z]; exact hK.2 j (by omega)
def kq (S : x_S) (tl : List va_E) (r : pR) (a : Int) (v : Option Value) (h' : List va_E) : Prop := v = some (.int (iZ r.1)) ∧ ∃ S', h' = x_hC S' tl ∧ KF S S' ∧ (r.1 = -1 → KS S' r.2.1 r.2.2.1 r.2.2.2 ∧ S'.1 10 = bI (decide (a ≠ 0)))
theorem kq_ok {S : x_S} {tl : List va_E} {n : Nat} {u : Nat → Int} {t : Nat → Bool} {x : Int32} (hK : KS S n u t) (hn : 1 ≤ n) (ht : t (n - 1) = true) (hx : x = bI (decide (u (n - 1) ≠ 0))) : kq S tl (pchoice n u t) (u (n - 1)) (some (.int (Int32.ofInt (-1)))) (x_hC (x_i (x_i S 9 (S.1 9 - Int32.ofInt 1)) 10 x) tl) := by
  have e : pchoice n u t = (-1, n - 1, u, t) := by unfold pchoice; rw [if_neg (by omega), if_neg (by rw [ht]; decide)]
  rw [e]
  exact ⟨rfl, _, rfl, (KF.i _ _).trans (KF.c _ _), fun _ => ⟨⟨((x_in _ _ (by decide)).trans (x_ig _ _ _)).trans (hK.i (k := 1) hn), fun j hj => hK.2 j (by have : j < n - 1 := hj; omega)⟩, (x_ig _ _ _).trans hx⟩⟩
/-- what is wrong with the stack at the end -/
noncomputable def pend (n : Nat) (t : Nat → Bool) (o : Nat) : Int := if n ≠ o then 14 else if dc (∃ j, j < n ∧ t j = true) = true then 10 else -1
theorem pend_n {n o : Nat} {t : Nat → Bool} (h : n ≠ o) : pend n t o = 14 := by unfold pend; rw [if_pos h]
theorem pend_s {n o k : Nat} {t : Nat → Bool} (h : n = o) (hk : k < n) (ht : t k = true) : pend n t o = 10 := by unfold pend; rw [if_neg (fun z => z h), if_pos (dc_t ⟨k, hk, ht⟩)]
theorem pend_ok {n o : Nat} {t : Nat → Bool} (h : n = o ∧ ∀ j, j < n → t j = false) : pend n t o = -1 := by
  unfold pend
  rw [if_neg (fun z => z h.1), dc_f (fun ⟨j, h1, h2⟩ => by rw [h.2 j h1] at h2; cases h2)]
  rfl
set_option maxHeartbeats 4000000 in
set_option maxRecDepth 100000 in
theorem K_reverse_m {l : Launch} {G : ax_G} (S : x_S) (tl : List va_E) (a b : Nat) (hab : a ≤ b) (hb : b ≤ 60) (hz : ∀ j, a ≤ j → j < b → vp_nar .boolean (S.2.1 13 j) = S.2.1 13 j) :
    AM l VV G K_reverse_y K_reverse_c 7 none 0 0 0 [.ref 150, .int (nI a), .int (nI b)] (x_hC S tl) (fun v h' => v = none ∧ h' = x_hC (x_A (x_A S 12 (rv a b (S.2.1 12))) 13 (rv a b (S.2.1 13))) tl) := by
  refine AM.of (pl := pl_K) (by decide) v_good fl_K_ok kl_K_ok nofun (Nat.le_of_ble_eq_true rfl) ?_
  intro p e s m args below meth c X
  refine AW.run X K_reverse_d 0 6 rfl ?_
  have L7 : ∀ (t2 i : Nat), 2 * i ≤ b - a + 1 → b + 2 - 2 * i < t2 → AW p l e (ax_R 0 0 0) s m args below meth c VV G 7 (x_hC (x_A (x_A S 12 (rvi a b i (S.2.1 12))) 13 (rvi a b i (S.2.1 13))) tl) 0 0 (MQ below (ax_Q VV G (fun v h' => v = none ∧ h' = x_hC (x_A (x_A S 12 (rv a b (S.2.1 12))) 13 (rv a b (S.2.1 13))) tl)) args s 0 0 (fun q => G.bs ≤ q)) 7 [(4, .int (iZ ((b : Int) - 1 - i))), (3, .int (nI (a + i))), (0, .ref 150), (1, .int (nI a)), (2, .int (nI b))] [] := by
    intro t2
    induction t2 with
    | zero => intro i h1 h2; exact absurd h2 (by omega)
    | succ t2 ih =>
      intro i h1 h2
      refine AW.run X K_reverse_d 6 2 rfl ?_
      refine AW.icmp_ge X (K_reverse_d.d 8 rfl) (fun q8 => ?_) (fun q8 => ?_)
      · exact AW.vret X (K_reverse_d.d 48 rfl) (Nat.le_of_ble_eq_true rfl) (Nat.le_of_ble_eq_true rfl) ⟨rfl, by rw [rvi_e (by have := (iZ_le (a := (b : Int) - 1 - i) (b := ((a + i : Nat) : Int)) ⟨by omega, by omega⟩ ⟨by omega, by omega⟩).mp (by rw [← iZ_n]; exact q8); omega) (by omega) hab, rvi_e (by have := (iZ_le (a := (b : Int) - 1 - i) (b := ((a + i : Nat) : Int)) ⟨by omega, by omega⟩ ⟨by omega, by omega⟩).mp (by rw [← iZ_n]; exact q8); omega) (by omega) hab]⟩
      · have hlt : (a : Int) + i < (b : Int) - 1 - i := by
          have := mt (iZ_le (a := (b : Int) - 1 - i) (b := ((a + i : Nat) : Int)) ⟨by omega, by omega⟩ ⟨by omega, by omega⟩).mpr (by rw [← iZ_n]; exact q8)
          omega
        refine AW.run X K_reverse_d 9 3 rfl ?_
        refine AW.cl12 (j := a + i) X rfl (show a + i < 60 by omega) (K_reverse_d.d 12 rfl) ?_
        refine AW.run X K_reverse_d 13 4 rfl ?_
        refine AW.cl13 (j := a + i) X rfl (show a + i < 60 by omega) (K_reverse_d.d 17 rfl) ?_
        refine AW.run X K_reverse_d 18 7 rfl ?_
        refine AW.cl12 (j := b - 1 - i) X (by rw [iZ_n]; congr 1; omega) (show b - 1 - i < 60 by omega) (K_reverse_d.d 25 rfl) ?_
        refine AW.cs12 (j := a + i) X rfl (show a + i < 60 by omega) (K_reverse_d.d 26 rfl) ?_
        refine AW.run X K_reverse_d 27 6 rfl ?_
        refine AW.cl13 (j := b - 1 - i) X (by rw [iZ_n]; congr 1; omega) (show b - 1 - i < 60 by omega) (K_reverse_d.d 33 rfl) ?_
        refine AW.cs13 (j := a + i) X rfl (show a + i < 60 by omega) (K_reverse_d.d 34 rfl) ?_
        refine AW.run X K_reverse_d 35 4 rfl ?_
        refine AW.cs12 (j := b - 1 - i) X (by rw [iZ_n]; congr 1; omega) (show b - 1 - i < 60 by omega) (K_reverse_d.d 39 rfl) ?_
        refine AW.run X K_reverse_d 40 4 rfl ?_
        refine AW.cs13 (j := b - 1 - i) X (by rw [iZ_n]; congr 1; omega) (show b - 1 - i < 60 by omega) (K_reverse_d.d 44 rfl) ?_
        refine AW.run X K_reverse_d 45 2 rfl ?_
        refine AW.goto X (K_reverse_d.d 47 rfl) ?_
        refine AW.pk [0, 1, 4, 5, 6] rfl ?_
        rw [show nI (a + i) + Int32.ofInt 1 = nI (a + (i + 1)) from nI_o1 (a + i), show iZ ((b : Int) - 1 - i) + Int32.ofInt (-1) = iZ ((b : Int) - 1 - ((i + 1 : Nat) : Int)) from by rw [show Int32.ofInt (-1) = iZ (-1) from rfl, iZ_add]; congr 1; omega]
        exact AW.eq (h' := x_hC (x_A (x_A S 12 (rvi a b (i + 1) (S.2.1 12))) 13 (rvi a b (i + 1) (S.2.1 13))) tl) (congrArg (fun z => x_hC z tl) (rv_st S (by omega) hz)) (ih (i + 1) (by omega) (by omega))
  rw [show nI b - Int32.ofInt 1 = iZ ((b : Int) - 1 - ((0 : Nat) : Int)) from by rw [iZ_n, show Int32.ofInt 1 = iZ 1 from rfl, iZ_sub]; congr 1; omega]
  exact AW.eq (h' := x_hC (x_A (x_A S 12 (rvi a b 0 (S.2.1 12))) 13 (rvi a b 0 (S.2.1 13))) tl) (by rw [rvi_0, rvi_0, x_A0, x_A0]) (L7 (b + 3) 0 (by omega) (by omega))

set_option maxHeartbeats 4000000 in
set_option maxRecDepth 100000 in
theorem K_turn_m {l : Launch} {G : ax_G} (S : x_S) (tl : List va_E) (a k r : Nat) (hk : a + k ≤ r) (hr : r ≤ 60) (hs : S.1 9 = nI r) (hz : ∀ j, a ≤ j → j < r → vp_nar .boolean (S.2.1 13 j) = S.2.1 13 j) :
    AM l VV G K_turn_y K_turn_c 3 none 1 0 0 [.ref 150, .int (nI a), .int (nI k)] (x_hC S tl) (fun v h' => v = none ∧ h' = x_hC (x_A (x_A S 12 (prt r (r - a) k (S.2.1 12))) 13 (prt r (r - a) k (S.2.1 13))) tl) := by
  refine AM.of (pl := pl_K) (by decide) v_good fl_K_ok kl_K_ok nofun (Nat.le_of_ble_eq_true rfl) ?_
  intro p e s m args below meth c X
  refine AW.run X K_turn_d 0 4 rfl ?_
  rw [hs]
  refine AW.callV (As := [.int (nI a), .int (nI r)]) X (K_reverse_m S tl a r (by omega) hr hz) cb_K_170 rfl rfl K_reverse_im K_reverse_se rfl ⟨Nat.le_of_ble_eq_true rfl, Nat.le_of_ble_eq_true rfl⟩ (Nat.le_of_ble_eq_true rfl) ⟨Nat.le_of_ble_eq_true rfl, Nat.le_of_ble_eq_true rfl⟩ (K_turn_d.d 4 rfl) (fun v h' q => ?_)
  obtain ⟨rfl, rfl⟩ := q
  refine AW.run X K_turn_d 5 5 rfl ?_
  rw [nI_add]
  refine AW.callV (As := [.int (nI a), .int (nI (a + k))]) X (K_reverse_m (x_A (x_A S 12 (rv a r (S.2.1 12))) 13 (rv a r (S.2.1 13))) tl a (a + k) (by omega) (by omega) (fun j h1 h2 => rv_zz hz (Nat.le_refl _) (Nat.le_refl _) j h1 (by omega))) cb_K_170 rfl rfl K_reverse_im K_reverse_se rfl ⟨Nat.le_of_ble_eq_true rfl, Nat.le_of_ble_eq_true rfl⟩ (Nat.le_of_ble_eq_true rfl) ⟨Nat.le_of_ble_eq_true rfl, Nat.le_of_ble_eq_true rfl⟩ (K_turn_d.d 10 rfl) (fun v h' q => ?_)
  obtain ⟨rfl, rfl⟩ := q
  refine AW.run X K_turn_d 11 6 rfl ?_
  rw [show (x_A (x_A (x_A (x_A S 12 (rv a r (S.2.1 12))) 13 (rv a r (S.2.1 13))) 12 (rv a (a + k) ((x_A (x_A S 12 (rv a r (S.2.1 12))) 13 (rv a r (S.2.1 13))).2.1 12))) 13 (rv a (a + k) ((x_A (x_A S 12 (rv a r (S.2.1 12))) 13 (rv a r (S.2.1 13))).2.1 13))).1 9 = nI r from hs, nI_add]
  refine AW.callV (As := [.int (nI (a + k)), .int (nI r)]) X (K_reverse_m (x_A (x_A (x_A (x_A S 12 (rv a r (S.2.1 12))) 13 (rv a r (S.2.1 13))) 12 (rv a (a + k) ((x_A (x_A S 12 (rv a r (S.2.1 12))) 13 (rv a r (S.2.1 13))).2.1 12))) 13 (rv a (a + k) ((x_A (x_A S 12 (rv a r (S.2.1 12))) 13 (rv a r (S.2.1 13))).2.1 13))) tl (a + k) r (by omega) (by omega) (fun j h1 h2 => rv_zz (rv_zz hz (Nat.le_refl _) (Nat.le_refl _)) (Nat.le_refl _) (by omega) j (by omega) h2)) cb_K_170 rfl rfl K_reverse_im K_reverse_se rfl ⟨Nat.le_of_ble_eq_true rfl, Nat.le_of_ble_eq_true rfl⟩ (Nat.le_of_ble_eq_true rfl) ⟨Nat.le_of_ble_eq_true rfl, Nat.le_of_ble_eq_true rfl⟩ (K_turn_d.d 17 rfl) (fun v h' q => ?_)
  obtain ⟨rfl, rfl⟩ := q
  exact AW.vret X (K_turn_d.d 18 rfl) (Nat.le_of_ble_eq_true rfl) (Nat.le_of_ble_eq_true rfl) ⟨rfl, congrArg (fun z => x_hC z tl) (rv_3 S (by omega))⟩

set_option maxHeartbeats 4000000 in
set_option maxRecDepth 100000 in
theorem JMath_floorMod1_m {l : Launch} {G : ax_G} {h : List va_E} (a b : Int) (ha : -16384 ≤ a ∧ a ≤ 16384) (hb : 0 < b ∧ b ≤ 16384) :
    AM l VV G JMath_floorMod1_y JMath_floorMod1_c 3 (some .int) 0 0 0 [.int (iZ a), .int (iZ b)] (h) (fun v h' => v = some (.int (iZ (a % b))) ∧ h' = h) := by
  refine AM.ofF (pl := pl_JMath) JMath_floorMod1_pf v_good fl_JMath_ok kl_JMath_ok nofun (Nat.le_of_ble_eq_true rfl) ?_
  intro p e s m args below meth c X
  refine AW.run X JMath_floorMod1_d 0 2 rfl ?_
  refine AW.irem X (JMath_floorMod1_d.d 2 rfl) (by rw [show (0 : Int32) = iZ 0 from rfl, iZ_eq ⟨by omega, by omega⟩ ⟨by decide, by decide⟩]; omega) ?_
  rw [(iZ_tq ha ⟨by omega, by omega⟩).2]
  refine AW.run X JMath_floorMod1_d 3 4 rfl ?_
  refine AW.if_ge X (JMath_floorMod1_d.d 7 rfl) (fun q7 => ?_) (fun q7 => ?_)
  · refine AW.run X JMath_floorMod1_d 14 1 rfl ?_
    exact AW.iret X (JMath_floorMod1_d.d 15 rfl) (Nat.le_of_ble_eq_true rfl) (Nat.le_of_ble_eq_true rfl) ⟨by rw [fm_p ha hb q7], rfl⟩
  · refine AW.run X JMath_floorMod1_d 8 1 rfl ?_
    refine AW.if_eq X (JMath_floorMod1_d.d 9 rfl) (fun q9 => ?_) (fun q9 => ?_)
    · refine AW.run X JMath_floorMod1_d 14 1 rfl ?_
      exact AW.iret X (JMath_floorMod1_d.d 15 rfl) (Nat.le_of_ble_eq_true rfl) (Nat.le_of_ble_eq_true rfl) ⟨by rw [fm_z ha hb q9], rfl⟩
    · refine AW.run X JMath_floorMod1_d 10 3 rfl ?_
      exact AW.iret X (JMath_floorMod1_d.d 13 rfl) (Nat.le_of_ble_eq_true rfl) (Nat.le_of_ble_eq_true rfl) ⟨by rw [iZ_add, fm_n ha hb q7 q9], rfl⟩

set_option maxHeartbeats 4000000 in
set_option maxRecDepth 100000 in
theorem K_move31_m {l : Launch} {G : ax_G} (S : x_S) (tl : List va_E) (n : Nat) (u : Nat → Int) (t : Nat → Bool) (hW : WS n u t) (hK : KS S n u t) (hn : 1 ≤ n) (num : Int) :
    AM l VV G K_move_y K_move_c 2 (some .int) 1 0 0 [.ref 150, .ref 31] (x_hC S tl) (fun v h' => kp S tl (pS 31 num n u t) v h') := by
  refine AM.of (pl := pl_K) (by decide) v_good fl_K_ok kl_K_ok nofun (Nat.le_of_ble_eq_true rfl) ?_
  intro p e s m args below meth c X
  refine AW.gets X gs_K_100.1 gs_K_100.2 (K_move_d.d 0 rfl) ?_
  refine AW.run X K_move_d 1 1 rfl ?_
  refine AW.callU (rc := ("NumberFunctions$Word", Cl_O, 4)) (As := []) X (JEnum_ordinal_m 31 (by decide) (x_w S tl)) cu_K_105_O rfl rfl rfl ⟨Nat.le_of_ble_eq_true rfl, Nat.le_of_ble_eq_true rfl⟩ (Nat.le_of_ble_eq_true rfl) ⟨Nat.le_of_ble_eq_true rfl, Nat.le_of_ble_eq_true rfl⟩ (K_move_d.d 2 rfl) (fun v h' q => ?_)
  obtain ⟨rfl, rfl⟩ := q
  refine AW.tiald (j := 31) X (List.mem_of_getElem? (i := 1) rfl) rfl (by decide) (by decide) (K_move_d.d 3 rfl) ?_
  refine AW.lookup X (K_move_d.d 4 rfl) (by decide) (off := 28) (by decide) ?_
  refine AW.run X K_move_d 5 5 rfl ?_
  refine AW.cp9 X (K_move_d.d 10 rfl) ?_
  refine AW.run X K_move_d 11 1 rfl ?_
  exact AW.iret X (K_move_d.d 12 rfl) (Nat.le_of_ble_eq_true rfl) (Nat.le_of_ble_eq_true rfl) ⟨by rw [pS_31]; unfold ppop; rw [if_neg (by omega)]; rfl, _, rfl, KF.i _ _, fun _ => by rw [pS_31]; unfold ppop; rw [if_neg (by omega)]; exact ⟨(x_ig _ _ _).trans (hK.i (k := 1) hn), fun j hj => hK.2 j (by have : j < n - 1 := hj; omega)⟩⟩

set_option maxHeartbeats 4000000 in
set_option maxRecDepth 100000 in
theorem K_move32_m {l : Launch} {G : ax_G} (S : x_S) (tl : List va_E) (n : Nat) (u : Nat → Int) (t : Nat → Bool) (hW : WS n u t) (hK : KS S n u t) (hn : 2 ≤ n) (num : Int) :
    AM l VV G K_move_y K_move_c 2 (some .int) 2 0 0 [.ref 150, .ref 32] (x_hC S tl) (fun v h' => kp S tl (pS 32 num n u t) v h') := by
  refine AM.of (pl := pl_K) (by decide) v_good fl_K_ok kl_K_ok nofun (Nat.le_of_ble_eq_true rfl) ?_
  intro p e s m args below meth c X
  refine AW.gets X gs_K_100.1 gs_K_100.2 (K_move_d.d 0 rfl) ?_
  refine AW.run X K_move_d 1 1 rfl ?_
  refine AW.callU (rc := ("NumberFunctions$Word", Cl_O, 4)) (As := []) X (JEnum_ordinal_m 32 (by decide) (x_w S tl)) cu_K_105_O rfl rfl rfl ⟨Nat.le_of_ble_eq_true rfl, Nat.le_of_ble_eq_true rfl⟩ (Nat.le_of_ble_eq_true rfl) ⟨Nat.le_of_ble_eq_true rfl, Nat.le_of_ble_eq_true rfl⟩ (K_move_d.d 2 rfl) (fun v h' q => ?_)
  obtain ⟨rfl, rfl⟩ := q
  refine AW.tiald (j := 32) X (List.mem_of_getElem? (i := 1) rfl) rfl (by decide) (by decide) (K_move_d.d 3 rfl) ?_
  refine AW.lookup X (K_move_d.d 4 rfl) (by decide) (off := 40) (by decide) ?_
  refine AW.run X K_move_d 13 7 rfl ?_
  rw [show S.1 9 - Int32.ofInt 2 = nI (n - 2) from hK.i (k := 2) hn, hK.1]
  refine AW.callV (As := [.int (nI (n - 2)), .int (nI n)]) X (K_reverse_m S tl (n - 2) n (by omega) hW.1 (fun j _ hj => by rw [(hK.2 j hj).2]; exact bI_vn _)) cb_K_170 rfl rfl K_reverse_im K_reverse_se rfl ⟨Nat.le_of_ble_eq_true rfl, Nat.le_of_ble_eq_true rfl⟩ (Nat.le_of_ble_eq_true rfl) ⟨Nat.le_of_ble_eq_true rfl, Nat.le_of_ble_eq_true rfl⟩ (K_move_d.d 20 rfl) (fun v h' q => ?_)
  obtain ⟨rfl, rfl⟩ := q
  refine AW.run X K_move_d 21 1 rfl ?_
  exact AW.iret X (K_move_d.d 22 rfl) (Nat.le_of_ble_eq_true rfl) (Nat.le_of_ble_eq_true rfl) ⟨by rw [pS_32]; unfold pexch; rw [if_neg (by omega)]; rfl, _, rfl, (KF.V _ _).trans (KF.T _ _), fun _ => by rw [pS_32]; unfold pexch; rw [if_neg (by omega)]; exact ks_xc hK hn⟩

set_option maxHeartbeats 4000000 in
set_option maxRecDepth 100000 in
theorem K_move33_m {l : Launch} {G : ax_G} (S : x_S) (tl : List va_E) (n : Nat) (u : Nat → Int) (t : Nat → Bool) (hW : WS n u t) (hK : KS S n u t) (hn : 1 ≤ n) (num : Int) :
    AM l VV G K_move_y K_move_c 2 (some .int) 2 0 0 [.ref 150, .ref 33] (x_hC S tl) (fun v h' => kp S tl (pS 33 num n u t) v h') := by
  refine AM.of (pl := pl_K) (by decide) v_good fl_K_ok kl_K_ok nofun (Nat.le_of_ble_eq_true rfl) ?_
  intro p e s m args below meth c X
  refine AW.gets X gs_K_100.1 gs_K_100.2 (K_move_d.d 0 rfl) ?_
  refine AW.run X K_move_d 1 1 rfl ?_
  refine AW.callU (rc := ("NumberFunctions$Word", Cl_O, 4)) (As := []) X (JEnum_ordinal_m 33 (by decide) (x_w S tl)) cu_K_105_O rfl rfl rfl ⟨Nat.le_of_ble_eq_true rfl, Nat.le_of_ble_eq_true rfl⟩ (Nat.le_of_ble_eq_true rfl) ⟨Nat.le_of_ble_eq_true rfl, Nat.le_of_ble_eq_true rfl⟩ (K_move_d.d 2 rfl) (fun v h' q => ?_)
  obtain ⟨rfl, rfl⟩ := q
  refine AW.tiald (j := 33) X (List.mem_of_getElem? (i := 1) rfl) rfl (by decide) (by decide) (K_move_d.d 3 rfl) ?_
  refine AW.lookup X (K_move_d.d 4 rfl) (by decide) (off := 56) (by decide) ?_
  refine AW.run X K_move_d 23 8 rfl ?_
  refine AW.cl12 (j := n - 1) X (hK.i (k := 1) (by omega)) (by have := hW.1; omega) (K_move_d.d 31 rfl) ?_
  rw [(hK.2 (n - 1) (by omega)).1]
  refine AW.run X K_move_d 32 7 rfl ?_
  refine AW.cl13 (j := n - 1) X (hK.i (k := 1) (by omega)) (by have := hW.1; omega) (K_move_d.d 39 rfl) ?_
  rw [(hK.2 (n - 1) (by omega)).2]
  rw [iZ_l (zN_I (hW.2 (n - 1) (by omega)).1)]
  refine AW.callV (As := [.int (nI 0), .long (lZ (u (n - 1))), .int (bI ((t (n - 1))))]) X (K_give_m S tl n 0 u t hW hK (u (n - 1)) (t (n - 1)) (by omega) (zN_L (hW.2 (n - 1) (by omega)).1)) cb_K_80 rfl rfl K_give_im K_give_se rfl ⟨Nat.le_of_ble_eq_true rfl, Nat.le_of_ble_eq_true rfl⟩ (Nat.le_of_ble_eq_true rfl) ⟨Nat.le_of_ble_eq_true rfl, Nat.le_of_ble_eq_true rfl⟩ (K_move_d.d 40 rfl) (fun v h' q => ?_)
  obtain ⟨rfl, q⟩ := q
  exact AW.iret X (K_move_d.d 41 rfl) (Nat.le_of_ble_eq_true rfl) (Nat.le_of_ble_eq_true rfl) (kp_eq (by rw [pS_33]; unfold pdup; rw [if_neg (by omega)]) ⟨rfl, q⟩)

set_option maxHeartbeats 4000000 in
set_option maxRecDepth 100000 in
theorem K_roll_m {l : Launch} {G : ax_G} (S : x_S) (tl : List va_E) (n : Nat) (u : Nat → Int) (t : Nat → Bool) (hW : WS n u t) (hK : KS S n u t) (hn : 2 ≤ n) (num : Int) :
    AM l VV G K_roll_y K_roll_c 5 (some .int) 3 0 0 [.ref 150] (x_hC S tl) (fun v h' => kp S tl (pS 36 num n u t) v h') := by
  refine AM.of (pl := pl_K) (by decide) v_good fl_K_ok kl_K_ok nofun (Nat.le_of_ble_eq_true rfl) ?_
  intro p e s m args below meth c X
  refine AW.run X K_roll_d 0 2 rfl ?_
  refine AW.callV (As := [.int (nI 2)]) X (K_faultOfWholes2_m S tl n u t hW hK hn) cb_K_138 rfl rfl K_faultOfWholes_im K_faultOfWholes_se rfl ⟨Nat.le_of_ble_eq_true rfl, Nat.le_of_ble_eq_true rfl⟩ (Nat.le_of_ble_eq_true rfl) ⟨Nat.le_of_ble_eq_true rfl, Nat.le_of_ble_eq_true rfl⟩ (K_roll_d.d 2 rfl) (fun v h' q => ?_)
  obtain ⟨rfl, rfl⟩ := q
  refine AW.run X K_roll_d 3 3 rfl ?_
  refine AW.icmp_eq X (K_roll_d.d 6 rfl) (fun q6 => ?_) (fun q6 => ?_)
  · have hp : pwh2 n u t = -1 := (pwh2_c n u t).mp q6
    obtain ⟨hw2, hw1⟩ := pwh2_w hp
    refine AW.run X K_roll_d 9 6 rfl ?_
    refine AW.cl12 (j := n - 2) X (hK.i (k := 2) (by omega)) (by have := hW.1; omega) (K_roll_d.d 15 rfl) ?_
    rw [(hK.2 (n - 2) (by omega)).1]
    refine AW.run X K_roll_d 16 1 rfl ?_
    refine AW.idiv X (K_roll_d.d 17 rfl) (by decide) ?_
    rw [iZ_dw (hW.2 (n - 2) (by omega)).1 hw2]
    refine AW.run X K_roll_d 18 7 rfl ?_
    refine AW.cl12 (j := n - 1) X (hK.i (k := 1) (by omega)) (by have := hW.1; omega) (K_roll_d.d 25 rfl) ?_
    rw [(hK.2 (n - 1) (by omega)).1]
    refine AW.run X K_roll_d 26 1 rfl ?_
    refine AW.idiv X (K_roll_d.d 27 rfl) (by decide) ?_
    rw [iZ_dw (hW.2 (n - 1) (by omega)).1 hw1]
    refine AW.run X K_roll_d 28 4 rfl ?_
    refine AW.run X K_roll_d 32 1 rfl ?_
    rw [show S.1 9 - Int32.ofInt 2 = nI (n - 2) from hK.i (k := 2) hn]
    have hn60 := hW.1
    have b2 := (zN_q (hW.2 (n - 2) (by omega)).1)
    have b1 := (zN_q (hW.2 (n - 1) (by omega)).1)
    refine AW.run X K_roll_d 33 2 rfl ?_
    refine AW.if_ge X (K_roll_d.d 35 rfl) (fun q35 => ?_) (fun q35 => ?_)
    · have h0 : 0 ≤ (u (n - 2) / 65536) := (iZ_le ⟨by decide, by decide⟩ ⟨by omega, by omega⟩).mp q35
      refine AW.run X K_roll_d 38 2 rfl ?_
      refine AW.icmp_le X (K_roll_d.d 40 rfl) (fun q40 => ?_) (fun q40 => ?_)
      · have h3 : (u (n - 2) / 65536) ≤ ((n - 2 : Nat) : Int) := (iZ_le ⟨by omega, by omega⟩ ⟨by omega, by omega⟩).mp (by rw [← iZ_n]; exact q40)
        refine AW.run X K_roll_d 43 2 rfl ?_
        refine AW.cp9 X (K_roll_d.d 45 rfl) ?_
        refine AW.run X K_roll_d 46 1 rfl ?_
        refine AW.if_le X (K_roll_d.d 47 rfl) (fun q47 => ?_) (fun q47 => ?_)
        · refine AW.run X K_roll_d 56 1 rfl ?_
          exact AW.iret X (K_roll_d.d 57 rfl) (Nat.le_of_ble_eq_true rfl) (Nat.le_of_ble_eq_true rfl) (by
            have hm0 : (u (n - 2) / 65536) = 0 := by have := (iZ_le (a := (u (n - 2) / 65536)) (b := 0) ⟨by omega, by omega⟩ ⟨by decide, by decide⟩).mp q47; omega
            exact kp_roll0 hK hn hp hm0 hW)
        · have h4 : 0 < (u (n - 2) / 65536) := by have := mt (iZ_le (a := (u (n - 2) / 65536)) (b := 0) ⟨by omega, by omega⟩ ⟨by decide, by decide⟩).mpr q47; omega
          have h5 := Int.emod_nonneg (u (n - 1) / 65536) (show (u (n - 2) / 65536) ≠ 0 by omega)
          have h6 := Int.emod_lt_of_pos (u (n - 1) / 65536) h4
          refine AW.run X K_roll_d 48 6 rfl ?_
          refine AW.callS (As := [.int (iZ (u (n - 1) / 65536)), .int (iZ (u (n - 2) / 65536))]) X (JMath_floorMod1_m (u (n - 1) / 65536) (u (n - 2) / 65536) (zN_q (hW.2 (n - 1) (by omega)).1) ⟨h4, by omega⟩) cb_K_186 JMath_floorMod1_st rfl ⟨Nat.le_of_ble_eq_true rfl, Nat.le_of_ble_eq_true rfl⟩ (Nat.le_of_ble_eq_true rfl) ⟨Nat.le_of_ble_eq_true rfl, Nat.le_of_ble_eq_true rfl⟩ (K_roll_d.d 54 rfl) (fun v h' q => ?_)
          obtain ⟨rfl, rfl⟩ := q
          rw [show nI (n - 2) - iZ (u (n - 2) / 65536) = nI (n - 2 - (u (n - 2) / 65536).toNat) from by rw [iZ_n, iZ_sub, iZ_n]; congr 1; omega, show iZ ((u (n - 1) / 65536) % (u (n - 2) / 65536)) = nI ((u (n - 1) / 65536) % (u (n - 2) / 65536)).toNat from by rw [iZ_n]; congr 1; omega]
          refine AW.callV (As := [.int (nI (n - 2 - (u (n - 2) / 65536).toNat)), .int (nI ((u (n - 1) / 65536) % (u (n - 2) / 65536)).toNat)]) X (K_turn_m (x_i S 9 (nI (n - 2))) tl (n - 2 - (u (n - 2) / 65536).toNat) ((u (n - 1) / 65536) % (u (n - 2) / 65536)).toNat (n - 2) (by omega) (by omega) (x_ig _ _ _) (fun j _ hj => by rw [show (x_i S 9 (nI (n - 2))).2.1 13 j = S.2.1 13 j from rfl, (hK.2 j (by omega)).2]; exact bI_vn _)) cb_K_189 rfl rfl K_turn_im K_turn_se rfl ⟨Nat.le_of_ble_eq_true rfl, Nat.le_of_ble_eq_true rfl⟩ (Nat.le_of_ble_eq_true rfl) ⟨Nat.le_of_ble_eq_true rfl, Nat.le_of_ble_eq_true rfl⟩ (K_roll_d.d 55 rfl) (fun v h' q => ?_)
          obtain ⟨rfl, rfl⟩ := q
          refine AW.run X K_roll_d 56 1 rfl ?_
          exact AW.iret X (K_roll_d.d 57 rfl) (Nat.le_of_ble_eq_true rfl) (Nat.le_of_ble_eq_true rfl) (kp_roll hK hn hp h4 (by omega) hW)
      · refine AW.run X K_roll_d 41 1 rfl ?_
        exact AW.iret X (K_roll_d.d 42 rfl) (Nat.le_of_ble_eq_true rfl) (Nat.le_of_ble_eq_true rfl) (kp_e (c := 9) (by rw [pS_36]; unfold proll; rw [if_neg (by omega), if_neg (fun z => z hp), if_neg (by omega), if_pos (by have := mt (iZ_le (a := (u (n - 2) / 65536)) (b := ((n - 2 : Nat) : Int)) ⟨by omega, by omega⟩ ⟨by omega, by omega⟩).mpr (by rw [← iZ_n]; exact q40); omega)]; rfl) (by decide) rfl)
    · refine AW.run X K_roll_d 36 1 rfl ?_
      exact AW.iret X (K_roll_d.d 37 rfl) (Nat.le_of_ble_eq_true rfl) (Nat.le_of_ble_eq_true rfl) (kp_e (c := 12) (by rw [pS_36]; unfold proll; rw [if_neg (by omega), if_neg (fun z => z hp), if_pos (by have := mt (iZ_le (a := 0) (b := (u (n - 2) / 65536)) ⟨by decide, by decide⟩ ⟨by omega, by omega⟩).mpr q35; omega)]; rfl) (by decide) rfl)
  · refine AW.run X K_roll_d 7 1 rfl ?_
    exact AW.iret X (K_roll_d.d 8 rfl) (Nat.le_of_ble_eq_true rfl) (Nat.le_of_ble_eq_true rfl) (kp_e (c := pwh2 n u t) (by rw [pS_36]; unfold proll; rw [if_neg (by omega), if_pos (fun z => q6 ((pwh2_c n u t).mpr z))]; rfl) (fun z => q6 ((pwh2_c n u t).mpr z)) rfl)

set_option maxHeartbeats 4000000 in
set_option maxRecDepth 100000 in
theorem K_copyUpper_m {l : Launch} {G : ax_G} (S : x_S) (tl : List va_E) (k r : Nat) (hkr : k ≤ r) (hr : r ≤ 60) (hz : ∀ j, j < r → fits .boolean (.int (S.2.1 13 j)) = true) :
    AM l VV G K_copyUpper_y K_copyUpper_c 3 (some .int) 1 0 0 [.ref 150, .int (nI k), .int (nI r)] (x_hC S tl) (fun v h' => (60 < r + k ∧ v = some (.int 8) ∧ h' = x_hC S tl) ∨ (r + k ≤ 60 ∧ v = some (.int (iZ (-1))) ∧ h' = x_hC (x_i (x_A (x_A S 12 (va_cpy (S.2.1 12) (S.2.1 12) (r - k) r k)) 13 (va_cpy (S.2.1 13) (S.2.1 13) (r - k) r k)) 9 (nI (r + k))) tl)) := by
  refine AM.of (pl := pl_K) (by decide) v_good fl_K_ok kl_K_ok nofun (Nat.le_of_ble_eq_true rfl) ?_
  intro p e s m args below meth c X
  refine AW.run X K_copyUpper_d 0 4 rfl ?_
  refine AW.icmp_le X (K_copyUpper_d.d 4 rfl) (fun q4 => ?_) (fun q4 => ?_)
  · have hlt : r + k ≤ 60 := (nI_leI (by omega) (by decide)).mp (by rw [← nI_add]; exact q4)
    refine AW.run X K_copyUpper_d 7 9 rfl ?_
    refine AW.copyi (t0 := 0) (t := 0) (sp := r - k) (dp := r) (n := k) (ty := .int) X rfl rfl rfl rfl rfl (by decide) ac_K_180 (pk_sub hkr) rfl rfl (by omega) (by omega) (by decide) (by decide) (fun i hi => rfl) (Nat.le_of_ble_eq_true rfl) (Nat.le_of_ble_eq_true rfl) (Nat.le_of_ble_eq_true rfl) (K_copyUpper_d.d 16 rfl) ?_
    refine AW.eq (h' := x_hC (x_A S 12 (va_cpy (S.2.1 12) (S.2.1 12) (r - k) r k)) tl) rfl ?_
    refine AW.run X K_copyUpper_d 17 9 rfl ?_
    refine AW.copyi (t0 := 3) (t := 3) (sp := r - k) (dp := r) (n := k) (ty := .boolean) X rfl rfl rfl rfl rfl (by decide) ac_K_180 (pk_sub hkr) rfl rfl (by omega) (by omega) (by decide) (by decide) (fun i hi => hz _ (by omega)) (Nat.le_of_ble_eq_true rfl) (Nat.le_of_ble_eq_true rfl) (Nat.le_of_ble_eq_true rfl) (K_copyUpper_d.d 26 rfl) ?_
    refine AW.eq (h' := x_hC (x_A (x_A S 12 (va_cpy (S.2.1 12) (S.2.1 12) (r - k) r k)) 13 (va_cpy (S.2.1 13) (S.2.1 13) (r - k) r k)) tl) rfl ?_
    refine AW.run X K_copyUpper_d 27 4 rfl ?_
    refine AW.cp9 X (K_copyUpper_d.d 31 rfl) ?_
    refine AW.run X K_copyUpper_d 32 1 rfl ?_
    exact AW.iret X (K_copyUpper_d.d 33 rfl) (Nat.le_of_ble_eq_true rfl) (Nat.le_of_ble_eq_true rfl) (Or.inr ⟨hlt, rfl, by rw [nI_add]⟩)
  · refine AW.run X K_copyUpper_d 5 1 rfl ?_
    exact AW.iret X (K_copyUpper_d.d 6 rfl) (Nat.le_of_ble_eq_true rfl) (Nat.le_of_ble_eq_true rfl) (Or.inl ⟨by have := mt (nI_leI (a := r + k) (b := 60) (by omega) (by decide)).mpr (by rw [← nI_add]; exact q4); omega, rfl, rfl⟩)

set_option maxHeartbeats 4000000 in
set_option maxRecDepth 100000 in
theorem K_reach34_m {l : Launch} {G : ax_G} (S : x_S) (tl : List va_E) (n : Nat) (u : Nat → Int) (t : Nat → Bool) (hW : WS n u t) (hK : KS S n u t) (hn : 1 ≤ n) (num : Int) :
    AM l VV G K_reach_y K_reach_c 6 (some .int) 3 0 0 [.ref 150, .ref 34] (x_hC S tl) (fun v h' => kp S tl (pS 34 num n u t) v h') := by
  refine AM.of (pl := pl_K) (by decide) v_good fl_K_ok kl_K_ok nofun (Nat.le_of_ble_eq_true rfl) ?_
  intro p e s m args below meth c X
  refine AW.run X K_reach_d 0 2 rfl ?_
  refine AW.callV (As := [.int (nI 1)]) X (K_faultOfWholes1_m S tl n u t hW hK hn) cb_K_138 rfl rfl K_faultOfWholes_im K_faultOfWholes_se rfl ⟨Nat.le_of_ble_eq_true rfl, Nat.le_of_ble_eq_true rfl⟩ (Nat.le_of_ble_eq_true rfl) ⟨Nat.le_of_ble_eq_true rfl, Nat.le_of_ble_eq_true rfl⟩ (K_reach_d.d 2 rfl) (fun v h' q => ?_)
  obtain ⟨rfl, rfl⟩ := q
  refine AW.run X K_reach_d 3 3 rfl ?_
  refine AW.icmp_eq X (K_reach_d.d 6 rfl) (fun q6 => ?_) (fun q6 => ?_)
  · have hp : pwh1 n u t = -1 := (pwh1_c n u t).mp q6
    have hw1 := pwh1_w hp
    refine AW.run X K_reach_d 9 6 rfl ?_
    refine AW.cl12 (j := n - 1) X (hK.i (k := 1) (by omega)) (by have := hW.1; omega) (K_reach_d.d 15 rfl) ?_
    rw [(hK.2 (n - 1) (by omega)).1]
    refine AW.run X K_reach_d 16 1 rfl ?_
    refine AW.idiv X (K_reach_d.d 17 rfl) (by decide) ?_
    rw [iZ_dw (hW.2 (n - 1) (by omega)).1 hw1]
    refine AW.run X K_reach_d 18 4 rfl ?_
    refine AW.run X K_reach_d 22 1 rfl ?_
    rw [show S.1 9 - Int32.ofInt 1 = nI (n - 1) from hK.i (k := 1) hn]
    have hn60 := hW.1
    have b1 := (zN_q (hW.2 (n - 1) (by omega)).1)
    refine AW.run X K_reach_d 23 2 rfl ?_
    refine AW.if_ge X (K_reach_d.d 25 rfl) (fun q25 => ?_) (fun q25 => ?_)
    · have h0 : 0 ≤ (u (n - 1) / 65536) := (iZ_le ⟨by decide, by decide⟩ ⟨by omega, by omega⟩).mp q25
      refine AW.run X K_reach_d 28 1 rfl ?_
      refine AW.gets X gs_K_174.1 gs_K_174.2 (K_reach_d.d 29 rfl) ?_
      refine AW.acmp_ne X (some 34) (some 35) (Or.inl (by decide)) (Or.inl (by decide)) (K_reach_d.d 30 rfl) (fun q => ?_) (fun q => absurd q (by decide))
      refine AW.run X K_reach_d 54 2 rfl ?_
      refine AW.icmp_le X (K_reach_d.d 56 rfl) (fun q56 => ?_) (fun q56 => ?_)
      · have h3 : (u (n - 1) / 65536) ≤ ((n - 1 : Nat) : Int) := (iZ_le ⟨by omega, by omega⟩ ⟨by omega, by omega⟩).mp (by rw [← iZ_n]; exact q56)
        refine AW.run X K_reach_d 59 3 rfl ?_
        rw [show iZ (u (n - 1) / 65536) = nI (u (n - 1) / 65536).toNat from by rw [iZ_n]; congr 1; omega]
        refine AW.callV (As := [.int (nI (u (n - 1) / 65536).toNat), .int (nI (n - 1))]) X (K_copyUpper_m S tl (u (n - 1) / 65536).toNat (n - 1) (by omega) (by omega) (fun j hj => by rw [(hK.2 j (by omega)).2]; exact bI_fit _)) cb_K_177 rfl rfl K_copyUpper_im K_copyUpper_se rfl ⟨Nat.le_of_ble_eq_true rfl, Nat.le_of_ble_eq_true rfl⟩ (Nat.le_of_ble_eq_true rfl) ⟨Nat.le_of_ble_eq_true rfl, Nat.le_of_ble_eq_true rfl⟩ (K_reach_d.d 62 rfl) (fun v h' q => ?_)
        obtain ⟨g1, rfl, rfl⟩ | ⟨g1, rfl, rfl⟩ := q
        · exact AW.iret X (K_reach_d.d 63 rfl) (Nat.le_of_ble_eq_true rfl) (Nat.le_of_ble_eq_true rfl) (kp_e (c := 8) (by rw [pS_34]; unfold pcopy; rw [if_neg (by omega), if_neg (fun z => z hp), if_neg (by omega), if_neg (by omega), if_pos (by omega)]; rfl) (by decide) rfl)
        · exact AW.iret X (K_reach_d.d 63 rfl) (Nat.le_of_ble_eq_true rfl) (Nat.le_of_ble_eq_true rfl) (kp_copy hK hn hp h0 g1 (by omega))
      · refine AW.run X K_reach_d 57 1 rfl ?_
        refine AW.goto X (K_reach_d.d 58 rfl) ?_
        exact AW.iret X (K_reach_d.d 63 rfl) (Nat.le_of_ble_eq_true rfl) (Nat.le_of_ble_eq_true rfl) (kp_e (c := 9) (by rw [pS_34]; unfold pcopy; rw [if_neg (by omega), if_neg (fun z => z hp), if_neg (by omega), if_pos (by have := mt (iZ_le (a := (u (n - 1) / 65536)) (b := ((n - 1 : Nat) : Int)) ⟨by omega, by omega⟩ ⟨by omega, by omega⟩).mpr (by rw [← iZ_n]; exact q56); omega)]; rfl) (by decide) rfl)
    · refine AW.run X K_reach_d 26 1 rfl ?_
      exact AW.iret X (K_reach_d.d 27 rfl) (Nat.le_of_ble_eq_true rfl) (Nat.le_of_ble_eq_true rfl) (kp_e (c := 12) (by rw [pS_34]; unfold pcopy; rw [if_neg (by omega), if_neg (fun z => z hp), if_pos (by have := mt (iZ_le (a := 0) (b := (u (n - 1) / 65536)) ⟨by decide, by decide⟩ ⟨by omega, by omega⟩).mpr q25; omega)]; rfl) (by decide) rfl)
  · refine AW.run X K_reach_d 7 1 rfl ?_
    exact AW.iret X (K_reach_d.d 8 rfl) (Nat.le_of_ble_eq_true rfl) (Nat.le_of_ble_eq_true rfl) (kp_e (c := pwh1 n u t) (by rw [pS_34]; unfold pcopy; rw [if_neg (by omega), if_pos (fun z => q6 ((pwh1_c n u t).mpr z))]; rfl) (fun z => q6 ((pwh1_c n u t).mpr z)) rfl)

set_option maxHeartbeats 4000000 in
set_option maxRecDepth 100000 in
theorem K_reach35_m {l : Launch} {G : ax_G} (S : x_S) (tl : List va_E) (n : Nat) (u : Nat → Int) (t : Nat → Bool) (hW : WS n u t) (hK : KS S n u t) (hn : 1 ≤ n) (num : Int) :
    AM l VV G K_reach_y K_reach_c 6 (some .int) 3 0 0 [.ref 150, .ref 35] (x_hC S tl) (fun v h' => kp S tl (pS 35 num n u t) v h') := by
  refine AM.of (pl := pl_K) (by decide) v_good fl_K_ok kl_K_ok nofun (Nat.le_of_ble_eq_true rfl) ?_
  intro p e s m args below meth c X
  refine AW.run X K_reach_d 0 2 rfl ?_
  refine AW.callV (As := [.int (nI 1)]) X (K_faultOfWholes1_m S tl n u t hW hK hn) cb_K_138 rfl rfl K_faultOfWholes_im K_faultOfWholes_se rfl ⟨Nat.le_of_ble_eq_true rfl, Nat.le_of_ble_eq_true rfl⟩ (Nat.le_of_ble_eq_true rfl) ⟨Nat.le_of_ble_eq_true rfl, Nat.le_of_ble_eq_true rfl⟩ (K_reach_d.d 2 rfl) (fun v h' q => ?_)
  obtain ⟨rfl, rfl⟩ := q
  refine AW.run X K_reach_d 3 3 rfl ?_
  refine AW.icmp_eq X (K_reach_d.d 6 rfl) (fun q6 => ?_) (fun q6 => ?_)
  · have hp : pwh1 n u t = -1 := (pwh1_c n u t).mp q6
    have hw1 := pwh1_w hp
    refine AW.run X K_reach_d 9 6 rfl ?_
    refine AW.cl12 (j := n - 1) X (hK.i (k := 1) (by omega)) (by have := hW.1; omega) (K_reach_d.d 15 rfl) ?_
    rw [(hK.2 (n - 1) (by omega)).1]
    refine AW.run X K_reach_d 16 1 rfl ?_
    refine AW.idiv X (K_reach_d.d 17 rfl) (by decide) ?_
    rw [iZ_dw (hW.2 (n - 1) (by omega)).1 hw1]
    refine AW.run X K_reach_d 18 4 rfl ?_
    refine AW.run X K_reach_d 22 1 rfl ?_
    rw [show S.1 9 - Int32.ofInt 1 = nI (n - 1) from hK.i (k := 1) hn]
    have hn60 := hW.1
    have b1 := (zN_q (hW.2 (n - 1) (by omega)).1)
    refine AW.run X K_reach_d 23 2 rfl ?_
    refine AW.if_ge X (K_reach_d.d 25 rfl) (fun q25 => ?_) (fun q25 => ?_)
    · have h0 : 0 ≤ (u (n - 1) / 65536) := (iZ_le ⟨by decide, by decide⟩ ⟨by omega, by omega⟩).mp q25
      refine AW.run X K_reach_d 28 1 rfl ?_
      refine AW.gets X gs_K_174.1 gs_K_174.2 (K_reach_d.d 29 rfl) ?_
      refine AW.acmp_ne X (some 35) (some 35) (Or.inl (by decide)) (Or.inl (by decide)) (K_reach_d.d 30 rfl) (fun q => absurd rfl q) (fun q => ?_)
      refine AW.run X K_reach_d 31 4 rfl ?_
      refine AW.run X K_reach_d 35 1 rfl ?_
      rw [show nI (n - 1) - Int32.ofInt 1 - iZ (u (n - 1) / 65536) = iZ ((n : Int) - 2 - (u (n - 1) / 65536)) from by rw [iZ_n, show Int32.ofInt 1 = iZ 1 from rfl, iZ_sub, iZ_sub]; congr 1; omega]
      refine AW.run X K_reach_d 36 2 rfl ?_
      refine AW.if_ge X (K_reach_d.d 38 rfl) (fun q38 => ?_) (fun q38 => ?_)
      · have h3 : 0 ≤ (n : Int) - 2 - (u (n - 1) / 65536) := (iZ_le ⟨by decide, by decide⟩ ⟨by omega, by omega⟩).mp q38
        rw [show iZ ((n : Int) - 2 - (u (n - 1) / 65536)) = nI (n - 2 - (u (n - 1) / 65536).toNat) from by rw [iZ_n]; congr 1; omega]
        refine AW.run X K_reach_d 41 5 rfl ?_
        refine AW.cl12 (j := n - 2 - (u (n - 1) / 65536).toNat) X rfl (show n - 2 - (u (n - 1) / 65536).toNat < 60 by omega) (K_reach_d.d 46 rfl) ?_
        rw [(hK.2 (n - 2 - (u (n - 1) / 65536).toNat) (by omega)).1]
        refine AW.run X K_reach_d 47 4 rfl ?_
        refine AW.cl13 (j := n - 2 - (u (n - 1) / 65536).toNat) X rfl (show n - 2 - (u (n - 1) / 65536).toNat < 60 by omega) (K_reach_d.d 51 rfl) ?_
        rw [(hK.2 (n - 2 - (u (n - 1) / 65536).toNat) (by omega)).2]
        rw [iZ_l (zN_I (hW.2 (n - 2 - (u (n - 1) / 65536).toNat) (by omega)).1)]
        refine AW.callV (As := [.int (nI 1), .long (lZ (u (n - 2 - (u (n - 1) / 65536).toNat))), .int (bI ((t (n - 2 - (u (n - 1) / 65536).toNat))))]) X (K_give_m S tl n 1 u t hW hK (u (n - 2 - (u (n - 1) / 65536).toNat)) (t (n - 2 - (u (n - 1) / 65536).toNat)) (by omega) (zN_L (hW.2 (n - 2 - (u (n - 1) / 65536).toNat) (by omega)).1)) cb_K_80 rfl rfl K_give_im K_give_se rfl ⟨Nat.le_of_ble_eq_true rfl, Nat.le_of_ble_eq_true rfl⟩ (Nat.le_of_ble_eq_true rfl) ⟨Nat.le_of_ble_eq_true rfl, Nat.le_of_ble_eq_true rfl⟩ (K_reach_d.d 52 rfl) (fun v h' q => ?_)
        obtain ⟨rfl, q⟩ := q
        exact AW.iret X (K_reach_d.d 53 rfl) (Nat.le_of_ble_eq_true rfl) (Nat.le_of_ble_eq_true rfl) (kp_eq (by rw [pS_35]; unfold pindex; rw [if_neg (by omega), if_neg (fun z => z hp), if_neg (by omega), if_neg (by omega)]) ⟨rfl, q⟩)
      · refine AW.run X K_reach_d 39 1 rfl ?_
        refine AW.goto X (K_reach_d.d 40 rfl) ?_
        exact AW.iret X (K_reach_d.d 53 rfl) (Nat.le_of_ble_eq_true rfl) (Nat.le_of_ble_eq_true rfl) (kp_e (c := 9) (by rw [pS_35]; unfold pindex; rw [if_neg (by omega), if_neg (fun z => z hp), if_neg (by omega), if_pos (by have := mt (iZ_le (a := 0) (b := (n : Int) - 2 - (u (n - 1) / 65536)) ⟨by decide, by decide⟩ ⟨by omega, by omega⟩).mpr q38; omega)]; rfl) (by decide) rfl)
    · refine AW.run X K_reach_d 26 1 rfl ?_
      exact AW.iret X (K_reach_d.d 27 rfl) (Nat.le_of_ble_eq_true rfl) (Nat.le_of_ble_eq_true rfl) (kp_e (c := 12) (by rw [pS_35]; unfold pindex; rw [if_neg (by omega), if_neg (fun z => z hp), if_pos (by have := mt (iZ_le (a := 0) (b := (u (n - 1) / 65536)) ⟨by decide, by decide⟩ ⟨by omega, by omega⟩).mpr q25; omega)]; rfl) (by decide) rfl)
  · refine AW.run X K_reach_d 7 1 rfl ?_
    exact AW.iret X (K_reach_d.d 8 rfl) (Nat.le_of_ble_eq_true rfl) (Nat.le_of_ble_eq_true rfl) (kp_e (c := pwh1 n u t) (by rw [pS_35]; unfold pindex; rw [if_neg (by omega), if_pos (fun z => q6 ((pwh1_c n u t).mpr z))]; rfl) (fun z => q6 ((pwh1_c n u t).mpr z)) rfl)

set_option maxHeartbeats 4000000 in
set_option maxRecDepth 100000 in
theorem K_choice_m {l : Launch} {G : ax_G} (S : x_S) (tl : List va_E) (n : Nat) (u : Nat → Int) (t : Nat → Bool) (hW : WS n u t) (hK : KS S n u t) (hn : 1 ≤ n) :
    AM l VV G K_choice_y K_choice_c 1 (some .int) 0 0 0 [.ref 150] (x_hC S tl) (fun v h' => kq S tl (pchoice n u t) (u (n - 1)) v h') := by
  refine AM.of (pl := pl_K) (by decide) v_good fl_K_ok kl_K_ok nofun (Nat.le_of_ble_eq_true rfl) ?_
  intro p e s m args below meth c X
  refine AW.run X K_choice_d 0 6 rfl ?_
  refine AW.cl13 (j := n - 1) X (hK.i (k := 1) (by omega)) (by have := hW.1; omega) (K_choice_d.d 6 rfl) ?_
  rw [(hK.2 (n - 1) (by omega)).2]
  refine AW.if_ne X (K_choice_d.d 7 rfl) (fun q7 => ?_) (fun q7 => ?_)
  · refine AW.run X K_choice_d 10 5 rfl ?_
    refine AW.cp9 X (K_choice_d.d 15 rfl) ?_
    refine AW.run X K_choice_d 16 5 rfl ?_
    refine AW.cl12 (j := n - 1) X ((x_ig _ _ _).trans (hK.i (k := 1) hn)) (by have := hW.1; omega) (K_choice_d.d 21 rfl) ?_
    rw [show (x_i S 9 (S.1 9 - Int32.ofInt 1)).2.1 12 (n - 1) = S.2.1 12 (n - 1) from rfl, (hK.2 (n - 1) (by omega)).1]
    refine AW.if_eq X (K_choice_d.d 22 rfl) (fun q22 => ?_) (fun q22 => ?_)
    · refine AW.run X K_choice_d 25 1 rfl ?_
      refine AW.cp10 X ⟨n_0, by decide⟩ (K_choice_d.d 26 rfl) ?_
      refine AW.run X K_choice_d 27 1 rfl ?_
      exact AW.iret X (K_choice_d.d 28 rfl) (Nat.le_of_ble_eq_true rfl) (Nat.le_of_ble_eq_true rfl) (kq_ok hK hn (Bool.of_not_eq_false (fun z => q7 ((bI_0 _).mpr z))) (by rw [decide_eq_false (fun z => z ((iZ_eq (b := 0) (zN_I (hW.2 (n - 1) (by omega)).1) ⟨by decide, by decide⟩).mp q22))]; rfl))
    · refine AW.run X K_choice_d 23 1 rfl ?_
      refine AW.goto X (K_choice_d.d 24 rfl) ?_
      refine AW.cp10 X ⟨n_1, by decide⟩ (K_choice_d.d 26 rfl) ?_
      refine AW.run X K_choice_d 27 1 rfl ?_
      exact AW.iret X (K_choice_d.d 28 rfl) (Nat.le_of_ble_eq_true rfl) (Nat.le_of_ble_eq_true rfl) (kq_ok hK hn (Bool.of_not_eq_false (fun z => q7 ((bI_0 _).mpr z))) (by rw [decide_eq_true (p := u (n - 1) ≠ 0) (fun z => q22 (by rw [z]; rfl))]; rfl))
  · refine AW.run X K_choice_d 8 1 rfl ?_
    exact AW.iret X (K_choice_d.d 9 rfl) (Nat.le_of_ble_eq_true rfl) (Nat.le_of_ble_eq_true rfl) ⟨by unfold pchoice; rw [if_neg (by omega), if_pos (bI_f0 q7)]; rfl, S, rfl, KF.refl S, fun z => by unfold pchoice at z; rw [if_neg (by omega), if_pos (bI_f0 q7)] at z; cases z⟩

set_option maxHeartbeats 4000000 in
set_option maxRecDepth 100000 in
theorem K_faultAtEnd_m {l : Launch} {G : ax_G} (S : x_S) (tl : List va_E) (n : Nat) (u : Nat → Int) (t : Nat → Bool) (hW : WS n u t) (hK : KS S n u t) (o : Nat) (ho : o ≤ 4) :
    AM l VV G K_faultAtEnd_y K_faultAtEnd_c 3 (some .int) 0 0 0 [.ref 150, .int (nI o)] (x_hC S tl) (fun v h' => v = some (.int (iZ (pend n t o))) ∧ h' = x_hC S tl) := by
  refine AM.of (pl := pl_K) (by decide) v_good fl_K_ok kl_K_ok nofun (Nat.le_of_ble_eq_true rfl) ?_
  intro p e s m args below meth c X
  refine AW.run X K_faultAtEnd_d 0 3 rfl ?_
  refine AW.icmp_eq X (K_faultAtEnd_d.d 3 rfl) (fun q3 => ?_) (fun q3 => ?_)
  · refine AW.run X K_faultAtEnd_d 6 2 rfl ?_
    have L13 : ∀ (t2 k : Nat), k ≤ n → n - k < t2 → (∀ j, j < k → t j = false) → AW p l e (ax_R 0 0 0) s m args below meth c VV G 3 (x_hC S tl) 0 0 (MQ below (ax_Q VV G (fun v h' => v = some (.int (iZ (pend n t o))) ∧ h' = x_hC S tl)) args s 0 0 (fun q => G.bs ≤ q)) 13 [(2, .int (nI k)), (0, .ref 150), (1, .int (nI o))] [] := by
      have hno : n = o := ceq q3 hK.1 rfl (by have := hW.1; omega) (by omega)
      intro t2
      induction t2 with
      | zero => intro k h1 h2; exact absurd h2 (by omega)
      | succ t2 ih =>
        intro k h1 h2 h3
        refine AW.run X K_faultAtEnd_d 8 3 rfl ?_
        refine AW.icmp_ge X (K_faultAtEnd_d.d 11 rfl) (fun q11 => ?_) (fun q11 => ?_)
        · refine AW.run X K_faultAtEnd_d 21 1 rfl ?_
          exact AW.iret X (K_faultAtEnd_d.d 22 rfl) (Nat.le_of_ble_eq_true rfl) (Nat.le_of_ble_eq_true rfl) ⟨by rw [pend_ok ⟨ceq q3 hK.1 rfl (by have := hW.1; omega) (by omega), fun j hj => h3 j (by have := cge q11 rfl hK.1 (by have := hW.1; omega) (by have := hW.1; omega); omega)⟩]; rfl, rfl⟩
        · have hk : k < n := clt q11 rfl hK.1 (by have := hW.1; omega) (by have := hW.1; omega)
          refine AW.run X K_faultAtEnd_d 12 3 rfl ?_
          refine AW.cl13 (j := k) X rfl (by have := hW.1; omega) (K_faultAtEnd_d.d 15 rfl) ?_
          rw [(hK.2 k hk).2]
          refine AW.if_eq X (K_faultAtEnd_d.d 16 rfl) (fun q16 => ?_) (fun q16 => ?_)
          · refine AW.run X K_faultAtEnd_d 19 1 rfl ?_
            refine AW.goto X (K_faultAtEnd_d.d 20 rfl) ?_
            rw [nI_o1]
            exact ih (k + 1) (by omega) (by omega) (fun j hj => by
              by_cases e1 : j = k
              · rw [e1]; exact bI_f0 q16
              · exact h3 j (by omega))
          · refine AW.run X K_faultAtEnd_d 17 1 rfl ?_
            exact AW.iret X (K_faultAtEnd_d.d 18 rfl) (Nat.le_of_ble_eq_true rfl) (Nat.le_of_ble_eq_true rfl) ⟨by rw [pend_s (ceq q3 hK.1 rfl (by have := hW.1; omega) (by omega)) hk (Bool.of_not_eq_false (fun z => q16 ((bI_0 _).mpr z)))]; rfl, rfl⟩
    exact L13 (n + 1) 0 (by omega) (by omega) (fun j hj => absurd hj (by omega))
  · refine AW.run X K_faultAtEnd_d 4 1 rfl ?_
    exact AW.iret X (K_faultAtEnd_d.d 5 rfl) (Nat.le_of_ble_eq_true rfl) (Nat.le_of_ble_eq_true rfl) ⟨by rw [pend_n (fun z => q3 (by rw [hK.1, z]))]; rfl, rfl⟩

set_option maxHeartbeats 4000000 in
set_option maxRecDepth 100000 in
theorem K_perform0_m {l : Launch} {G : ax_G} (S : x_S) (tl : List va_E) (n : Nat) (u : Nat → Int) (t : Nat → Bool) (hW : WS n u t) (hK : KS S n u t) (num : Int) (hx : zI num) :
    AM l VV G K_perform_y K_perform_c 3 (some .int) 4 0 0 [.ref 150, .ref 0, .int (iZ num)] (x_hC S tl) (fun v h' => kp S tl (pS 0 num n u t) v h') := by
  refine AM.of (pl := pl_K) (by decide) v_good fl_K_ok kl_K_ok nofun (Nat.le_of_ble_eq_true rfl) ?_
  intro p e s m args below meth c X
  refine AW.run X K_perform_d 0 4 rfl ?_
  refine AW.icmp_ge X (K_perform_d.d 4 rfl) (fun q4 => ?_) (fun q4 => absurd (show (0 : Int32) ≤ S.1 9 by rw [hK.1]; exact (nI_leI (a := 0) (b := n) (by decide) (by have := hW.1; omega)).mpr (by omega)) q4)
  refine AW.run X K_perform_d 7 2 rfl ?_
  refine AW.tableOut X (K_perform_d.d 9 rfl) (by decide) ?_
  refine AW.run X K_perform_d 58 1 rfl ?_
  exact AW.iret X (K_perform_d.d 59 rfl) (Nat.le_of_ble_eq_true rfl) (Nat.le_of_ble_eq_true rfl) ⟨rfl, S, rfl, KF.refl S, fun _ => hK⟩

set_option maxHeartbeats 4000000 in
set_option maxRecDepth 100000 in
theorem K_perform1_m {l : Launch} {G : ax_G} (S : x_S) (tl : List va_E) (n : Nat) (u : Nat → Int) (t : Nat → Bool) (hW : WS n u t) (hK : KS S n u t) (num : Int) (hx : zI num) :
    AM l VV G K_perform_y K_perform_c 3 (some .int) 4 0 0 [.ref 150, .ref 1, .int (iZ num)] (x_hC S tl) (fun v h' => kp S tl (pS 1 num n u t) v h') := by
  refine AM.of (pl := pl_K) (by decide) v_good fl_K_ok kl_K_ok nofun (Nat.le_of_ble_eq_true rfl) ?_
  intro p e s m args below meth c X
  refine AW.run X K_perform_d 0 4 rfl ?_
  refine AW.icmp_ge X (K_perform_d.d 4 rfl) (fun q4 => ?_) (fun q4 => absurd (show (0 : Int32) ≤ S.1 9 by rw [hK.1]; exact (nI_leI (a := 0) (b := n) (by decide) (by have := hW.1; omega)).mpr (by omega)) q4)
  refine AW.run X K_perform_d 7 2 rfl ?_
  refine AW.tableOut X (K_perform_d.d 9 rfl) (by decide) ?_
  refine AW.run X K_perform_d 58 1 rfl ?_
  exact AW.iret X (K_perform_d.d 59 rfl) (Nat.le_of_ble_eq_true rfl) (Nat.le_of_ble_eq_true rfl) ⟨rfl, S, rfl, KF.refl S, fun _ => hK⟩

set_option maxHeartbeats 4000000 in
set_option maxRecDepth 100000 in
theorem K_perform2_m {l : Launch} {G : ax_G} (S : x_S) (tl : List va_E) (n : Nat) (u : Nat → Int) (t : Nat → Bool) (hW : WS n u t) (hK : KS S n u t) (num : Int) (hx : zI num) :
    AM l VV G K_perform_y K_perform_c 3 (some .int) 4 0 0 [.ref 150, .ref 2, .int (iZ num)] (x_hC S tl) (fun v h' => kp S tl (pS 2 num n u t) v h') := by
  refine AM.of (pl := pl_K) (by decide) v_good fl_K_ok kl_K_ok nofun (Nat.le_of_ble_eq_true rfl) ?_
  intro p e s m args below meth c X
  refine AW.run X K_perform_d 0 4 rfl ?_
  refine AW.icmp_ge X (K_perform_d.d 4 rfl) (fun q4 => ?_) (fun q4 => absurd (show (0 : Int32) ≤ S.1 9 by rw [hK.1]; exact (nI_leI (a := 0) (b := n) (by decide) (by have := hW.1; omega)).mpr (by omega)) q4)
  refine AW.run X K_perform_d 7 2 rfl ?_
  refine AW.tableIn X (K_perform_d.d 9 rfl) (by decide) (by decide) (off := 50) (by decide) ?_
  refine AW.run X K_perform_d 10 3 rfl ?_
  refine AW.callV (As := [.ref 2, .int (iZ num)]) X (K_constant2_m S tl n u t hW hK num hx) cb_K_31 rfl rfl K_constant_im K_constant_se rfl ⟨Nat.le_of_ble_eq_true rfl, Nat.le_of_ble_eq_true rfl⟩ (Nat.le_of_ble_eq_true rfl) ⟨Nat.le_of_ble_eq_true rfl, Nat.le_of_ble_eq_true rfl⟩ (K_perform_d.d 13 rfl) (fun v h' q => ?_)
  obtain ⟨rfl, q⟩ := q
  exact AW.iret X (K_perform_d.d 14 rfl) (Nat.le_of_ble_eq_true rfl) (Nat.le_of_ble_eq_true rfl) ⟨rfl, q⟩

set_option maxHeartbeats 4000000 in
set_option maxRecDepth 100000 in
theorem K_perform3_m {l : Launch} {G : ax_G} (S : x_S) (tl : List va_E) (n : Nat) (u : Nat → Int) (t : Nat → Bool) (hW : WS n u t) (hK : KS S n u t) (num : Int) (hx : zI num) :
    AM l VV G K_perform_y K_perform_c 3 (some .int) 4 0 0 [.ref 150, .ref 3, .int (iZ num)] (x_hC S tl) (fun v h' => kp S tl (pS 3 num n u t) v h') := by
  refine AM.of (pl := pl_K) (by decide) v_good fl_K_ok kl_K_ok nofun (Nat.le_of_ble_eq_true rfl) ?_
  intro p e s m args below meth c X
  refine AW.run X K_perform_d 0 4 rfl ?_
  refine AW.icmp_ge X (K_perform_d.d 4 rfl) (fun q4 => ?_) (fun q4 => absurd (show (0 : Int32) ≤ S.1 9 by rw [hK.1]; exact (nI_leI (a := 0) (b := n) (by decide) (by have := hW.1; omega)).mpr (by omega)) q4)
  refine AW.run X K_perform_d 7 2 rfl ?_
  refine AW.tableIn X (K_perform_d.d 9 rfl) (by decide) (by decide) (off := 50) (by decide) ?_
  refine AW.run X K_perform_d 10 3 rfl ?_
  refine AW.callV (As := [.ref 3, .int (iZ num)]) X (K_constant3_m S tl n u t hW hK _) cb_K_31 rfl rfl K_constant_im K_constant_se rfl ⟨Nat.le_of_ble_eq_true rfl, Nat.le_of_ble_eq_true rfl⟩ (Nat.le_of_ble_eq_true rfl) ⟨Nat.le_of_ble_eq_true rfl, Nat.le_of_ble_eq_true rfl⟩ (K_perform_d.d 13 rfl) (fun v h' q => ?_)
  obtain ⟨rfl, q⟩ := q
  exact AW.iret X (K_perform_d.d 14 rfl) (Nat.le_of_ble_eq_true rfl) (Nat.le_of_ble_eq_true rfl) ⟨rfl, q⟩

set_option maxHeartbeats 4000000 in
set_option maxRecDepth 100000 in
theorem K_perform4_m {l : Launch} {G : ax_G} (S : x_S) (tl : List va_E) (n : Nat) (u : Nat → Int) (t : Nat → Bool) (hW : WS n u t) (hK : KS S n u t) (num : Int) (hx : zI num) :
    AM l VV G K_perform_y K_perform_c 3 (some .int) 4 0 0 [.ref 150, .ref 4, .int (iZ num)] (x_hC S tl) (fun v h' => kp S tl (pS 4 num n u t) v h') := by
  refine AM.of (pl := pl_K) (by decide) v_good fl_K_ok kl_K_ok nofun (Nat.le_of_ble_eq_true rfl) ?_
  intro p e s m args below meth c X
  refine AW.run X K_perform_d 0 4 rfl ?_
  refine AW.icmp_ge X (K_perform_d.d 4 rfl) (fun q4 => ?_) (fun q4 => absurd (show (0 : Int32) ≤ S.1 9 by rw [hK.1]; exact (nI_leI (a := 0) (b := n) (by decide) (by have := hW.1; omega)).mpr (by omega)) q4)
  refine AW.run X K_perform_d 7 2 rfl ?_
  refine AW.tableIn X (K_perform_d.d 9 rfl) (by decide) (by decide) (off := 50) (by decide) ?_
  refine AW.run X K_perform_d 10 3 rfl ?_
  refine AW.callV (As := [.ref 4, .int (iZ num)]) X (K_constant4_m S tl n u t hW hK _) cb_K_31 rfl rfl K_constant_im K_constant_se rfl ⟨Nat.le_of_ble_eq_true rfl, Nat.le_of_ble_eq_true rfl⟩ (Nat.le_of_ble_eq_true rfl) ⟨Nat.le_of_ble_eq_true rfl, Nat.le_of_ble_eq_true rfl⟩ (K_perform_d.d 13 rfl) (fun v h' q => ?_)
  obtain ⟨rfl, q⟩ := q
  exact AW.iret X (K_perform_d.d 14 rfl) (Nat.le_of_ble_eq_true rfl) (Nat.le_of_ble_eq_true rfl) ⟨rfl, q⟩

set_option maxHeartbeats 4000000 in
set_option maxRecDepth 100000 in
theorem K_perform5_m {l : Launch} {G : ax_G} (S : x_S) (tl : List va_E) (n : Nat) (u : Nat → Int) (t : Nat → Bool) (hW : WS n u t) (hK : KS S n u t) (num : Int) (hx : zI num) :
    AM l VV G K_perform_y K_perform_c 3 (some .int) 4 0 0 [.ref 150, .ref 5, .int (iZ num)] (x_hC S tl) (fun v h' => kp S tl (pS 5 num n u t) v h') := by
  refine AM.of (pl := pl_K) (by decide) v_good fl_K_ok kl_K_ok nofun (Nat.le_of_ble_eq_true rfl) ?_
  intro p e s m args below meth c X
  refine AW.run X K_perform_d 0 4 rfl ?_
  refine AW.icmp_ge X (K_perform_d.d 4 rfl) (fun q4 => ?_) (fun q4 => ?_)
  · have hn : 1 ≤ n := (nI_leI (a := 1) (b := n) (by decide) (by have := hW.1; omega)).mp (by rw [← hK.1]; exact q4)
    refine AW.run X K_perform_d 7 2 rfl ?_
    refine AW.tableIn X (K_perform_d.d 9 rfl) (by decide) (by decide) (off := 57) (by decide) ?_
    refine AW.run X K_perform_d 15 2 rfl ?_
    refine AW.callV (As := [.ref 5]) X (K_oneNumber5_m S tl n u t hW hK hn num) cb_K_35 rfl rfl K_oneNumber_im K_oneNumber_se rfl ⟨Nat.le_of_ble_eq_true rfl, Nat.le_of_ble_eq_true rfl⟩ (Nat.le_of_ble_eq_true rfl) ⟨Nat.le_of_ble_eq_true rfl, Nat.le_of_ble_eq_true rfl⟩ (K_perform_d.d 17 rfl) (fun v h' q => ?_)
    obtain ⟨rfl, q⟩ := q
    exact AW.iret X (K_perform_d.d 18 rfl) (Nat.le_of_ble_eq_true rfl) (Nat.le_of_ble_eq_true rfl) ⟨rfl, q⟩
  · refine AW.run X K_perform_d 5 1 rfl ?_
    exact AW.iret X (K_perform_d.d 6 rfl) (Nat.le_of_ble_eq_true rfl) (Nat.le_of_ble_eq_true rfl) (kp_e (c := 9) (by rw [pS_5]; unfold p1; rw [if_pos (by have := mt (nI_leI (a := 1) (b := n) (by decide) (by have := hW.1; omega)).mpr (fun z => q4 (by rw [hK.1]; exact z)); omega)]; rfl) (by decide) rfl)

set_option maxHeartbeats 4000000 in
set_option maxRecDepth 100000 in
theorem K_perform6_m {l : Launch} {G : ax_G} (S : x_S) (tl : List va_E) (n : Nat) (u : Nat → Int) (t : Nat → Bool) (hW : WS n u t) (hK : KS S n u t) (num : Int) (hx : zI num) :
    AM l VV G K_perform_y K_perform_c 3 (some .int) 4 0 0 [.ref 150, .ref 6, .int (iZ num)] (x_hC S tl) (fun v h' => kp S tl (pS 6 num n u t) v h') := by
  refine AM.of (pl := pl_K) (by decide) v_good fl_K_ok kl_K_ok nofun (Nat.le_of_ble_eq_true rfl) ?_
  intro p e s m args below meth c X
  refine AW.run X K_perform_d 0 4 rfl ?_
  refine AW.icmp_ge X (K_perform_d.d 4 rfl) (fun q4 => ?_) (fun q4 => ?_)
  · have hn : 1 ≤ n := (nI_leI (a := 1) (b := n) (by decide) (by have := hW.1; omega)).mp (by rw [← hK.1]; exact q4)
    refine AW.run X K_perform_d 7 2 rfl ?_
    refine AW.tableIn X (K_perform_d.d 9 rfl) (by decide) (by decide) (off := 57) (by decide) ?_
    refine AW.run X K_perform_d 15 2 rfl ?_
    refine AW.callV (As := [.ref 6]) X (K_oneNumber6_m S tl n u t hW hK hn num) cb_K_35 rfl rfl K_oneNumber_im K_oneNumber_se rfl ⟨Nat.le_of_ble_eq_true rfl, Nat.le_of_ble_eq_true rfl⟩ (Nat.le_of_ble_eq_true rfl) ⟨Nat.le_of_ble_eq_true rfl, Nat.le_of_ble_eq_true rfl⟩ (K_perform_d.d 17 rfl) (fun v h' q => ?_)
    obtain ⟨rfl, q⟩ := q
    exact AW.iret X (K_perform_d.d 18 rfl) (Nat.le_of_ble_eq_true rfl) (Nat.le_of_ble_eq_true rfl) ⟨rfl, q⟩
  · refine AW.run X K_perform_d 5 1 rfl ?_
    exact AW.iret X (K_perform_d.d 6 rfl) (Nat.le_of_ble_eq_true rfl) (Nat.le_of_ble_eq_true rfl) (kp_e (c := 9) (by rw [pS_6]; unfold p1; rw [if_pos (by have := mt (nI_leI (a := 1) (b := n) (by decide) (by have := hW.1; omega)).mpr (fun z => q4 (by rw [hK.1]; exact z)); omega)]; rfl) (by decide) rfl)

set_option maxHeartbeats 4000000 in
set_option maxRecDepth 100000 in
theorem K_perform7_m {l : Launch} {G : ax_G} (S : x_S) (tl : List va_E) (n : Nat) (u : Nat → Int) (t : Nat → Bool) (hW : WS n u t) (hK : KS S n u t) (num : Int) (hx : zI num) :
    AM l VV G K_perform_y K_perform_c 3 (some .int) 4 0 0 [.ref 150, .ref 7, .int (iZ num)] (x_hC S tl) (fun v h' => kp S tl (pS 7 num n u t) v h') := by
  refine AM.of (pl := pl_K) (by decide) v_good fl_K_ok kl_K_ok nofun (Nat.le_of_ble_eq_true rfl) ?_
  intro p e s m args below meth c X
  refine AW.run X K_perform_d 0 4 rfl ?_
  refine AW.icmp_ge X (K_perform_d.d 4 rfl) (fun q4 => ?_) (fun q4 => ?_)
  · have hn : 1 ≤ n := (nI_leI (a := 1) (b := n) (by decide) (by have := hW.1; omega)).mp (by rw [← hK.1]; exact q4)
    refine AW.run X K_perform_d 7 2 rfl ?_
    refine AW.tableIn X (K_perform_d.d 9 rfl) (by decide) (by decide) (off := 57) (by decide) ?_
    refine AW.run X K_perform_d 15 2 rfl ?_
    refine AW.callV (As := [.ref 7]) X (K_oneNumber7_m S tl n u t hW hK hn num) cb_K_35 rfl rfl K_oneNumber_im K_oneNumber_se rfl ⟨Nat.le_of_ble_eq_true rfl, Nat.le_of_ble_eq_true rfl⟩ (Nat.le_of_ble_eq_true rfl) ⟨Nat.le_of_ble_eq_true rfl, Nat.le_of_ble_eq_true rfl⟩ (K_perform_d.d 17 rfl) (fun v h' q => ?_)
    obtain ⟨rfl, q⟩ := q
    exact AW.iret X (K_perform_d.d 18 rfl) (Nat.le_of_ble_eq_true rfl) (Nat.le_of_ble_eq_true rfl) ⟨rfl, q⟩
  · refine AW.run X K_perform_d 5 1 rfl ?_
    exact AW.iret X (K_perform_d.d 6 rfl) (Nat.le_of_ble_eq_true rfl) (Nat.le_of_ble_eq_true rfl) (kp_e (c := 9) (by rw [pS_7]; unfold p1; rw [if_pos (by have := mt (nI_leI (a := 1) (b := n) (by decide) (by have := hW.1; omega)).mpr (fun z => q4 (by rw [hK.1]; exact z)); omega)]; rfl) (by decide) rfl)

set_option maxHeartbeats 4000000 in
set_option maxRecDepth 100000 in
theorem K_perform8_m {l : Launch} {G : ax_G} (S : x_S) (tl : List va_E) (n : Nat) (u : Nat → Int) (t : Nat → Bool) (hW : WS n u t) (hK : KS S n u t) (num : Int) (hx : zI num) :
    AM l VV G K_perform_y K_perform_c 3 (some .int) 4 0 0 [.ref 150, .ref 8, .int (iZ num)] (x_hC S tl) (fun v h' => kp S tl (pS 8 num n u t) v h') := by
  refine AM.of (pl := pl_K) (by decide) v_good fl_K_ok kl_K_ok nofun (Nat.le_of_ble_eq_true rfl) ?_
  intro p e s m args below meth c X
  refine AW.run X K_perform_d 0 4 rfl ?_
  refine AW.icmp_ge X (K_perform_d.d 4 rfl) (fun q4 => ?_) (fun q4 => ?_)
  · have hn : 1 ≤ n := (nI_leI (a := 1) (b := n) (by decide) (by have := hW.1; omega)).mp (by rw [← hK.1]; exact q4)
    refine AW.run X K_perform_d 7 2 rfl ?_
    refine AW.tableIn X (K_perform_d.d 9 rfl) (by decide) (by decide) (off := 57) (by decide) ?_
    refine AW.run X K_perform_d 15 2 rfl ?_
    refine AW.callV (As := [.ref 8]) X (K_oneNumber8_m S tl n u t hW hK hn num) cb_K_35 rfl rfl K_oneNumber_im K_oneNumber_se rfl ⟨Nat.le_of_ble_eq_true rfl, Nat.le_of_ble_eq_true rfl⟩ (Nat.le_of_ble_eq_true rfl) ⟨Nat.le_of_ble_eq_true rfl, Nat.le_of_ble_eq_true rfl⟩ (K_perform_d.d 17 rfl) (fun v h' q => ?_)
    obtain ⟨rfl, q⟩ := q
    exact AW.iret X (K_perform_d.d 18 rfl) (Nat.le_of_ble_eq_true rfl) (Nat.le_of_ble_eq_true rfl) ⟨rfl, q⟩
  · refine AW.run X K_perform_d 5 1 rfl ?_
    exact AW.iret X (K_perform_d.d 6 rfl) (Nat.le_of_ble_eq_true rfl) (Nat.le_of_ble_eq_true rfl) (kp_e (c := 9) (by rw [pS_8]; unfold p1; rw [if_pos (by have := mt (nI_leI (a := 1) (b := n) (by decide) (by have := hW.1; omega)).mpr (fun z => q4 (by rw [hK.1]; exact z)); omega)]; rfl) (by decide) rfl)

set_option maxHeartbeats 4000000 in
set_option maxRecDepth 100000 in
theorem K_perform9_m {l : Launch} {G : ax_G} (S : x_S) (tl : List va_E) (n : Nat) (u : Nat → Int) (t : Nat → Bool) (hW : WS n u t) (hK : KS S n u t) (num : Int) (hx : zI num) :
    AM l VV G K_perform_y K_perform_c 3 (some .int) 4 0 0 [.ref 150, .ref 9, .int (iZ num)] (x_hC S tl) (fun v h' => kp S tl (pS 9 num n u t) v h') := by
  refine AM.of (pl := pl_K) (by decide) v_good fl_K_ok kl_K_ok nofun (Nat.le_of_ble_eq_true rfl) ?_
  intro p e s m args below meth c X
  refine AW.run X K_perform_d 0 4 rfl ?_
  refine AW.icmp_ge X (K_perform_d.d 4 rfl) (fun q4 => ?_) (fun q4 => ?_)
  · have hn : 1 ≤ n := (nI_leI (a := 1) (b := n) (by decide) (by have := hW.1; omega)).mp (by rw [← hK.1]; exact q4)
    refine AW.run X K_perform_d 7 2 rfl ?_
    refine AW.tableIn X (K_perform_d.d 9 rfl) (by decide) (by decide) (off := 57) (by decide) ?_
    refine AW.run X K_perform_d 15 2 rfl ?_
    refine AW.callV (As := [.ref 9]) X (K_oneNumber9_m S tl n u t hW hK hn num) cb_K_35 rfl rfl K_oneNumber_im K_oneNumber_se rfl ⟨Nat.le_of_ble_eq_true rfl, Nat.le_of_ble_eq_true rfl⟩ (Nat.le_of_ble_eq_true rfl) ⟨Nat.le_of_ble_eq_true rfl, Nat.le_of_ble_eq_true rfl⟩ (K_perform_d.d 17 rfl) (fun v h' q => ?_)
    obtain ⟨rfl, q⟩ := q
    exact AW.iret X (K_perform_d.d 18 rfl) (Nat.le_of_ble_eq_true rfl) (Nat.le_of_ble_eq_true rfl) ⟨rfl, q⟩
  · refine AW.run X K_perform_d 5 1 rfl ?_
    exact AW.iret X (K_perform_d.d 6 rfl) (Nat.le_of_ble_eq_true rfl) (Nat.le_of_ble_eq_true rfl) (kp_e (c := 9) (by rw [pS_9]; unfold p1; rw [if_pos (by have := mt (nI_leI (a := 1) (b := n) (by decide) (by have := hW.1; omega)).mpr (fun z => q4 (by rw [hK.1]; exact z)); omega)]; rfl) (by decide) rfl)

set_option maxHeartbeats 4000000 in
set_option maxRecDepth 100000 in
theorem K_perform10_m {l : Launch} {G : ax_G} (S : x_S) (tl : List va_E) (n : Nat) (u : Nat → Int) (t : Nat → Bool) (hW : WS n u t) (hK : KS S n u t) (num : Int) (hx : zI num) :
    AM l VV G K_perform_y K_perform_c 3 (some .int) 4 0 0 [.ref 150, .ref 10, .int (iZ num)] (x_hC S tl) (fun v h' => kp S tl (pS 10 num n u t) v h') := by
  refine AM.of (pl := pl_K) (by decide) v_good fl_K_ok kl_K_ok nofun (Nat.le_of_ble_eq_true rfl) ?_
  intro p e s m args below meth c X
  refine AW.run X K_perform_d 0 4 rfl ?_
  refine AW.icmp_ge X (K_perform_d.d 4 rfl) (fun q4 => ?_) (fun q4 => ?_)
  · have hn : 1 ≤ n := (nI_leI (a := 1) (b := n) (by decide) (by have := hW.1; omega)).mp (by rw [← hK.1]; exact q4)
    refine AW.run X K_perform_d 7 2 rfl ?_
    refine AW.tableIn X (K_perform_d.d 9 rfl) (by decide) (by decide) (off := 57) (by decide) ?_
    refine AW.run X K_perform_d 15 2 rfl ?_
    refine AW.callV (As := [.ref 10]) X (K_oneNumber10_m S tl n u t hW hK hn num) cb_K_35 rfl rfl K_oneNumber_im K_oneNumber_se rfl ⟨Nat.le_of_ble_eq_true rfl, Nat.le_of_ble_eq_true rfl⟩ (Nat.le_of_ble_eq_true rfl) ⟨Nat.le_of_ble_eq_true rfl, Nat.le_of_ble_eq_true rfl⟩ (K_perform_d.d 17 rfl) (fun v h' q => ?_)
    obtain ⟨rfl, q⟩ := q
    exact AW.iret X (K_perform_d.d 18 rfl) (Nat.le_of_ble_eq_true rfl) (Nat.le_of_ble_eq_true rfl) ⟨rfl, q⟩
  · refine AW.run X K_perform_d 5 1 rfl ?_
    exact AW.iret X (K_perform_d.d 6 rfl) (Nat.le_of_ble_eq_true rfl) (Nat.le_of_ble_eq_true rfl) (kp_e (c := 9) (by rw [pS_10]; unfold p1; rw [if_pos (by have := mt (nI_leI (a := 1) (b := n) (by decide) (by have := hW.1; omega)).mpr (fun z => q4 (by rw [hK.1]; exact z)); omega)]; rfl) (by decide) rfl)

set_option maxHeartbeats 4000000 in
set_option maxRecDepth 100000 in
theorem K_perform11_m {l : Launch} {G : ax_G} (S : x_S) (tl : List va_E) (n : Nat) (u : Nat → Int) (t : Nat → Bool) (hW : WS n u t) (hK : KS S n u t) (num : Int) (hx : zI num) :
    AM l VV G K_perform_y K_perform_c 3 (some .int) 4 0 0 [.ref 150, .ref 11, .int (iZ num)] (x_hC S tl) (fun v h' => kp S tl (pS 11 num n u t) v h') := by
  refine AM.of (pl := pl_K) (by decide) v_good fl_K_ok kl_K_ok nofun (Nat.le_of_ble_eq_true rfl) ?_
  intro p e s m args below meth c X
  refine AW.run X K_perform_d 0 4 rfl ?_
  refine AW.icmp_ge X (K_perform_d.d 4 rfl) (fun q4 => ?_) (fun q4 => ?_)
  · have hn : 1 ≤ n := (nI_leI (a := 1) (b := n) (by decide) (by have := hW.1; omega)).mp (by rw [← hK.1]; exact q4)
    refine AW.run X K_perform_d 7 2 rfl ?_
    refine AW.tableIn X (K_perform_d.d 9 rfl) (by decide) (by decide) (off := 57) (by decide) ?_
    refine AW.run X K_perform_d 15 2 rfl ?_
    refine AW.callV (As := [.ref 11]) X (K_oneNumber11_m S tl n u t hW hK hn num) cb_K_35 rfl rfl K_oneNumber_im K_oneNumber_se rfl ⟨Nat.le_of_ble_eq_true rfl, Nat.le_of_ble_eq_true rfl⟩ (Nat.le_of_ble_eq_true rfl) ⟨Nat.le_of_ble_eq_true rfl, Nat.le_of_ble_eq_true rfl⟩ (K_perform_d.d 17 rfl) (fun v h' q => ?_)
    obtain ⟨rfl, q⟩ := q
    exact AW.iret X (K_perform_d.d 18 rfl) (Nat.le_of_ble_eq_true rfl) (Nat.le_of_ble_eq_true rfl) ⟨rfl, q⟩
  · refine AW.run X K_perform_d 5 1 rfl ?_
    exact AW.iret X (K_perform_d.d 6 rfl) (Nat.le_of_ble_eq_true rfl) (Nat.le_of_ble_eq_true rfl) (kp_e (c := 9) (by rw [pS_11]; unfold p1; rw [if_pos (by have := mt (nI_leI (a := 1) (b := n) (by decide) (by have := hW.1; omega)).mpr (fun z => q4 (by rw [hK.1]; exact z)); omega)]; rfl) (by decide) rfl)

set_option maxHeartbeats 4000000 in
set_option maxRecDepth 100000 in
theorem K_perform12_m {l : Launch} {G : ax_G} (S : x_S) (tl : List va_E) (n : Nat) (u : Nat → Int) (t : Nat → Bool) (hW : WS n u t) (hK : KS S n u t) (num : Int) (hx : zI num) :
    AM l VV G K_perform_y K_perform_c 3 (some .int) 4 0 0 [.ref 150, .ref 12, .int (iZ num)] (x_hC S tl) (fun v h' => kp S tl (pS 12 num n u t) v h') := by
  refine AM.of (pl := pl_K) (by decide) v_good fl_K_ok kl_K_ok nofun (Nat.le_of_ble_eq_true rfl) ?_
  intro p e s m args below meth c X
  refine AW.run X K_perform_d 0 4 rfl ?_
  refine AW.icmp_ge X (K_perform_d.d 4 rfl) (fun q4 => ?_) (fun q4 => ?_)
  · have hn : 1 ≤ n := (nI_leI (a := 1) (b := n) (by decide) (by have := hW.1; omega)).mp (by rw [← hK.1]; exact q4)
    refine AW.run X K_perform_d 7 2 rfl ?_
    refine AW.tableIn X (K_perform_d.d 9 rfl) (by decide) (by decide) (off := 57) (by decide) ?_
    refine AW.run X K_perform_d 15 2 rfl ?_
    refine AW.callV (As := [.ref 12]) X (K_oneNumber12_m S tl n u t hW hK hn num) cb_K_35 rfl rfl K_oneNumber_im K_oneNumber_se rfl ⟨Nat.le_of_ble_eq_true rfl, Nat.le_of_ble_eq_true rfl⟩ (Nat.le_of_ble_eq_true rfl) ⟨Nat.le_of_ble_eq_true rfl, Nat.le_of_ble_eq_true rfl⟩ (K_perform_d.d 17 rfl) (fun v h' q => ?_)
    obtain ⟨rfl, q⟩ := q
    exact AW.iret X (K_perform_d.d 18 rfl) (Nat.le_of_ble_eq_true rfl) (Nat.le_of_ble_eq_true rfl) ⟨rfl, q⟩
  · refine AW.run X K_perform_d 5 1 rfl ?_
    exact AW.iret X (K_perform_d.d 6 rfl) (Nat.le_of_ble_eq_true rfl) (Nat.le_of_ble_eq_true rfl) (kp_e (c := 9) (by rw [pS_12]; unfold p1; rw [if_pos (by have := mt (nI_leI (a := 1) (b := n) (by decide) (by have := hW.1; omega)).mpr (fun z => q4 (by rw [hK.1]; exact z)); omega)]; rfl) (by decide) rfl)

set_option maxHeartbeats 4000000 in
set_option maxRecDepth 100000 in
theorem K_perform13_m {l : Launch} {G : ax_G} (S : x_S) (tl : List va_E) (n : Nat) (u : Nat → Int) (t : Nat → Bool) (hW : WS n u t) (hK : KS S n u t) (num : Int) (hx : zI num) :
    AM l VV G K_perform_y K_perform_c 3 (some .int) 4 0 0 [.ref 150, .ref 13, .int (iZ num)] (x_hC S tl) (fun v h' => kp S tl (pS 13 num n u t) v h') := by
  refine AM.of (pl := pl_K) (by decide) v_good fl_K_ok kl_K_ok nofun (Nat.le_of_ble_eq_true rfl) ?_
  intro p e s m args below meth c X
  refine AW.run X K_perform_d 0 4 rfl ?_
  refine AW.icmp_ge X (K_perform_d.d 4 rfl) (fun q4 => ?_) (fun q4 => ?_)
  · have hn : 1 ≤ n := (nI_leI (a := 1) (b := n) (by decide) (by have := hW.1; omega)).mp (by rw [← hK.1]; exact q4)
    refine AW.run X K_perform_d 7 2 rfl ?_
    refine AW.tableIn X (K_perform_d.d 9 rfl) (by decide) (by decide) (off := 57) (by decide) ?_
    refine AW.run X K_perform_d 15 2 rfl ?_
    refine AW.callV (As := [.ref 13]) X (K_oneNumber13_m S tl n u t hW hK hn num) cb_K_35 rfl rfl K_oneNumber_im K_oneNumber_se rfl ⟨Nat.le_of_ble_eq_true rfl, Nat.le_of_ble_eq_true rfl⟩ (Nat.le_of_ble_eq_true rfl) ⟨Nat.le_of_ble_eq_true rfl, Nat.le_of_ble_eq_true rfl⟩ (K_perform_d.d 17 rfl) (fun v h' q => ?_)
    obtain ⟨rfl, q⟩ := q
    exact AW.iret X (K_perform_d.d 18 rfl) (Nat.le_of_ble_eq_true rfl) (Nat.le_of_ble_eq_true rfl) ⟨rfl, q⟩
  · refine AW.run X K_perform_d 5 1 rfl ?_
    exact AW.iret X (K_perform_d.d 6 rfl) (Nat.le_of_ble_eq_true rfl) (Nat.le_of_ble_eq_true rfl) (kp_e (c := 9) (by rw [pS_13]; unfold p1; rw [if_pos (by have := mt (nI_leI (a := 1) (b := n) (by decide) (by have := hW.1; omega)).mpr (fun z => q4 (by rw [hK.1]; exact z)); omega)]; rfl) (by decide) rfl)

set_option maxHeartbeats 4000000 in
set_option maxRecDepth 100000 in
theorem K_perform14_m {l : Launch} {G : ax_G} (S : x_S) (tl : List va_E) (n : Nat) (u : Nat → Int) (t : Nat → Bool) (hW : WS n u t) (hK : KS S n u t) (num : Int) (hx : zI num) :
    AM l VV G K_perform_y K_perform_c 3 (some .int) 4 0 0 [.ref 150, .ref 14, .int (iZ num)] (x_hC S tl) (fun v h' => kp S tl (pS 14 num n u t) v h') := by
  refine AM.of (pl := pl_K) (by decide) v_good fl_K_ok kl_K_ok nofun (Nat.le_of_ble_eq_true rfl) ?_
  intro p e s m args below meth c X
  refine AW.run X K_perform_d 0 4 rfl ?_
  refine AW.icmp_ge X (K_perform_d.d 4 rfl) (fun q4 => ?_) (fun q4 => ?_)
  · have hn : 2 ≤ n := (nI_leI (a := 2) (b := n) (by decide) (by have := hW.1; omega)).mp (by rw [← hK.1]; exact q4)
    refine AW.run X K_perform_d 7 2 rfl ?_
    refine AW.tableIn X (K_perform_d.d 9 rfl) (by decide) (by decide) (off := 63) (by decide) ?_
    refine AW.run X K_perform_d 19 2 rfl ?_
    refine AW.callV (As := [.ref 14]) X (K_twoNumbers14_m S tl n u t hW hK hn num) cb_K_39 rfl rfl K_twoNumbers_im K_twoNumbers_se rfl ⟨Nat.le_of_ble_eq_true rfl, Nat.le_of_ble_eq_true rfl⟩ (Nat.le_of_ble_eq_true rfl) ⟨Nat.le_of_ble_eq_true rfl, Nat.le_of_ble_eq_true rfl⟩ (K_perform_d.d 21 rfl) (fun v h' q => ?_)
    obtain ⟨rfl, q⟩ := q
    exact AW.iret X (K_perform_d.d 22 rfl) (Nat.le_of_ble_eq_true rfl) (Nat.le_of_ble_eq_true rfl) ⟨rfl, q⟩
  · refine AW.run X K_perform_d 5 1 rfl ?_
    exact AW.iret X (K_perform_d.d 6 rfl) (Nat.le_of_ble_eq_true rfl) (Nat.le_of_ble_eq_true rfl) (kp_e (c := 9) (by rw [pS_14]; unfold p2; rw [if_pos (by have := mt (nI_leI (a := 2) (b := n) (by decide) (by have := hW.1; omega)).mpr (fun z => q4 (by rw [hK.1]; exact z)); omega)]; rfl) (by decide) rfl)

set_option maxHeartbeats 4000000 in
set_option maxRecDepth 100000 in
theorem K_perform15_m {l : Launch} {G : ax_G} (S : x_S) (tl : List va_E) (n : Nat) (u : Nat → Int) (t : Nat → Bool) (hW : WS n u t) (hK : KS S n u t) (num : Int) (hx : zI num) :
    AM l VV G K_perform_y K_perform_c 3 (some .int) 4 0 0 [.ref 150, .ref 15, .int (iZ num)] (x_hC S tl) (fun v h' => kp S tl (pS 15 num n u t) v h') := by
  refine AM.of (pl := pl_K) (by decide) v_good fl_K_ok kl_K_ok nofun (Nat.le_of_ble_eq_true rfl) ?_
  intro p e s m args below meth c X
  refine AW.run X K_perform_d 0 4 rfl ?_
  refine AW.icmp_ge X (K_perform_d.d 4 rfl) (fun q4 => ?_) (fun q4 => ?_)
  · have hn : 2 ≤ n := (nI_leI (a := 2) (b := n) (by decide) (by have := hW.1; omega)).mp (by rw [← hK.1]; exact q4)
    refine AW.run X K_perform_d 7 2 rfl ?_
    refine AW.tableIn X (K_perform_d.d 9 rfl) (by decide) (by decide) (off := 63) (by decide) ?_
    refine AW.run X K_perform_d 19 2 rfl ?_
    refine AW.callV (As := [.ref 15]) X (K_twoNumbers15_m S tl n u t hW hK hn num) cb_K_39 rfl rfl K_twoNumbers_im K_twoNumbers_se rfl ⟨Nat.le_of_ble_eq_true rfl, Nat.le_of_ble_eq_true rfl⟩ (Nat.le_of_ble_eq_true rfl) ⟨Nat.le_of_ble_eq_true rfl, Nat.le_of_ble_eq_true rfl⟩ (K_perform_d.d 21 rfl) (fun v h' q => ?_)
    obtain ⟨rfl, q⟩ := q
    exact AW.iret X (K_perform_d.d 22 rfl) (Nat.le_of_ble_eq_true rfl) (Nat.le_of_ble_eq_true rfl) ⟨rfl, q⟩
  · refine AW.run X K_perform_d 5 1 rfl ?_
    exact AW.iret X (K_perform_d.d 6 rfl) (Nat.le_of_ble_eq_true rfl) (Nat.le_of_ble_eq_true rfl) (kp_e (c := 9) (by rw [pS_15]; unfold p2; rw [if_pos (by have := mt (nI_leI (a := 2) (b := n) (by decide) (by have := hW.1; omega)).mpr (fun z => q4 (by rw [hK.1]; exact z)); omega)]; rfl) (by decide) rfl)

set_option maxHeartbeats 4000000 in
set_option maxRecDepth 100000 in
theorem K_perform16_m {l : Launch} {G : ax_G} (S : x_S) (tl : List va_E) (n : Nat) (u : Nat → Int) (t : Nat → Bool) (hW : WS n u t) (hK : KS S n u t) (num : Int) (hx : zI num) :
    AM l VV G K_perform_y K_perform_c 3 (some .int) 4 0 0 [.ref 150, .ref 16, .int (iZ num)] (x_hC S tl) (fun v h' => kp S tl (pS 16 num n u t) v h') := by
  refine AM.of (pl := pl_K) (by decide) v_good fl_K_ok kl_K_ok nofun (Nat.le_of_ble_eq_true rfl) ?_
  intro p e s m args below meth c X
  refine AW.run X K_perform_d 0 4 rfl ?_
  refine AW.icmp_ge X (K_perform_d.d 4 rfl) (fun q4 => ?_) (fun q4 => ?_)
  · have hn : 2 ≤ n := (nI_leI (a := 2) (b := n) (by decide) (by have := hW.1; omega)).mp (by rw [← hK.1]; exact q4)
    refine AW.run X K_perform_d 7 2 rfl ?_
    refine AW.tableIn X (K_perform_d.d 9 rfl) (by decide) (by decide) (off := 63) (by decide) ?_
    refine AW.run X K_perform_d 19 2 rfl ?_
    refine AW.callV (As := [.ref 16]) X (K_twoNumbers16_m S tl n u t hW hK hn num) cb_K_39 rfl rfl K_twoNumbers_im K_twoNumbers_se rfl ⟨Nat.le_of_ble_eq_true rfl, Nat.le_of_ble_eq_true rfl⟩ (Nat.le_of_ble_eq_true rfl) ⟨Nat.le_of_ble_eq_true rfl, Nat.le_of_ble_eq_true rfl⟩ (K_perform_d.d 21 rfl) (fun v h' q => ?_)
    obtain ⟨rfl, q⟩ := q
    exact AW.iret X (K_perform_d.d 22 rfl) (Nat.le_of_ble_eq_true rfl) (Nat.le_of_ble_eq_true rfl) ⟨rfl, q⟩
  · refine AW.run X K_perform_d 5 1 rfl ?_
    exact AW.iret X (K_perform_d.d 6 rfl) (Nat.le_of_ble_eq_true rfl) (Nat.le_of_ble_eq_true rfl) (kp_e (c := 9) (by rw [pS_16]; unfold p2; rw [if_pos (by have := mt (nI_leI (a := 2) (b := n) (by decide) (by have := hW.1; omega)).mpr (fun z => q4 (by rw [hK.1]; exact z)); omega)]; rfl) (by decide) rfl)

set_option maxHeartbeats 4000000 in
set_option maxRecDepth 100000 in
theorem K_perform17_m {l : Launch} {G : ax_G} (S : x_S) (tl : List va_E) (n : Nat) (u : Nat → Int) (t : Nat → Bool) (hW : WS n u t) (hK : KS S n u t) (num : Int) (hx : zI num) :
    AM l VV G K_perform_y K_perform_c 3 (some .int) 4 0 0 [.ref 150, .ref 17, .int (iZ num)] (x_hC S tl) (fun v h' => kp S tl (pS 17 num n u t) v h') := by
  refine AM.of (pl := pl_K) (by decide) v_good fl_K_ok kl_K_ok nofun (Nat.le_of_ble_eq_true rfl) ?_
  intro p e s m args below meth c X
  refine AW.run X K_perform_d 0 4 rfl ?_
  refine AW.icmp_ge X (K_perform_d.d 4 rfl) (fun q4 => ?_) (fun q4 => ?_)
  · have hn : 2 ≤ n := (nI_leI (a := 2) (b := n) (by decide) (by have := hW.1; omega)).mp (by rw [← hK.1]; exact q4)
    refine AW.run X K_perform_d 7 2 rfl ?_
    refine AW.tableIn X (K_perform_d.d 9 rfl) (by decide) (by decide) (off := 63) (by decide) ?_
    refine AW.run X K_perform_d 19 2 rfl ?_
    refine AW.callV (As := [.ref 17]) X (K_twoNumbers17_m S tl n u t hW hK hn num) cb_K_39 rfl rfl K_twoNumbers_im K_twoNumbers_se rfl ⟨Nat.le_of_ble_eq_true rfl, Nat.le_of_ble_eq_true rfl⟩ (Nat.le_of_ble_eq_true rfl) ⟨Nat.le_of_ble_eq_true rfl, Nat.le_of_ble_eq_true rfl⟩ (K_perform_d.d 21 rfl) (fun v h' q => ?_)
    obtain ⟨rfl, q⟩ := q
    exact AW.iret X (K_perform_d.d 22 rfl) (Nat.le_of_ble_eq_true rfl) (Nat.le_of_ble_eq_true rfl) ⟨rfl, q⟩
  · refine AW.run X K_perform_d 5 1 rfl ?_
    exact AW.iret X (K_perform_d.d 6 rfl) (Nat.le_of_ble_eq_true rfl) (Nat.le_of_ble_eq_true rfl) (kp_e (c := 9) (by rw [pS_17]; unfold p2; rw [if_pos (by have := mt (nI_leI (a := 2) (b := n) (by decide) (by have := hW.1; omega)).mpr (fun z => q4 (by rw [hK.1]; exact z)); omega)]; rfl) (by decide) rfl)

set_option maxHeartbeats 4000000 in
set_option maxRecDepth 100000 in
theorem K_perform18_m {l : Launch} {G : ax_G} (S : x_S) (tl : List va_E) (n : Nat) (u : Nat → Int) (t : Nat → Bool) (hW : WS n u t) (hK : KS S n u t) (num : Int) (hx : zI num) :
    AM l VV G K_perform_y K_perform_c 3 (some .int) 4 0 0 [.ref 150, .ref 18, .int (iZ num)] (x_hC S tl) (fun v h' => kp S tl (pS 18 num n u t) v h') := by
  refine AM.of (pl := pl_K) (by decide) v_good fl_K_ok kl_K_ok nofun (Nat.le_of_ble_eq_true rfl) ?_
  intro p e s m args below meth c X
  refine AW.run X K_perform_d 0 4 rfl ?_
  refine AW.icmp_ge X (K_perform_d.d 4 rfl) (fun q4 => ?_) (fun q4 => ?_)
  · have hn : 2 ≤ n := (nI_leI (a := 2) (b := n) (by decide) (by have := hW.1; omega)).mp (by rw [← hK.1]; exact q4)
    refine AW.run X K_perform_d 7 2 rfl ?_
    refine AW.tableIn X (K_perform_d.d 9 rfl) (by decide) (by decide) (off := 69) (by decide) ?_
    refine AW.run X K_perform_d 23 2 rfl ?_
    refine AW.callV (As := [.ref 18]) X (K_twoWholes18_m S tl n u t hW hK hn num) cb_K_42 rfl rfl K_twoWholes_im K_twoWholes_se rfl ⟨Nat.le_of_ble_eq_true rfl, Nat.le_of_ble_eq_true rfl⟩ (Nat.le_of_ble_eq_true rfl) ⟨Nat.le_of_ble_eq_true rfl, Nat.le_of_ble_eq_true rfl⟩ (K_perform_d.d 25 rfl) (fun v h' q => ?_)
    obtain ⟨rfl, q⟩ := q
    exact AW.iret X (K_perform_d.d 26 rfl) (Nat.le_of_ble_eq_true rfl) (Nat.le_of_ble_eq_true rfl) ⟨rfl, q⟩
  · refine AW.run X K_perform_d 5 1 rfl ?_
    exact AW.iret X (K_perform_d.d 6 rfl) (Nat.le_of_ble_eq_true rfl) (Nat.le_of_ble_eq_true rfl) (kp_e (c := 9) (by rw [pS_18]; unfold pidm; rw [if_pos (by have := mt (nI_leI (a := 2) (b := n) (by decide) (by have := hW.1; omega)).mpr (fun z => q4 (by rw [hK.1]; exact z)); omega)]; rfl) (by decide) rfl)

set_option maxHeartbeats 4000000 in
set_option maxRecDepth 100000 in
theorem K_perform19_m {l : Launch} {G : ax_G} (S : x_S) (tl : List va_E) (n : Nat) (u : Nat → Int) (t : Nat → Bool) (hW : WS n u t) (hK : KS S n u t) (num : Int) (hx : zI num) :
    AM l VV G K_perform_y K_perform_c 3 (some .int) 4 0 0 [.ref 150, .ref 19, .int (iZ num)] (x_hC S tl) (fun v h' => kp S tl (pS 19 num n u t) v h') := by
  refine AM.of (pl := pl_K) (by decide) v_good fl_K_ok kl_K_ok nofun (Nat.le_of_ble_eq_true rfl) ?_
  intro p e s m args below meth c X
  refine AW.run X K_perform_d 0 4 rfl ?_
  refine AW.icmp_ge X (K_perform_d.d 4 rfl) (fun q4 => ?_) (fun q4 => ?_)
  · have hn : 2 ≤ n := (nI_leI (a := 2) (b := n) (by decide) (by have := hW.1; omega)).mp (by rw [← hK.1]; exact q4)
    refine AW.run X K_perform_d 7 2 rfl ?_
    refine AW.tableIn X (K_perform_d.d 9 rfl) (by decide) (by decide) (off := 69) (by decide) ?_
    refine AW.run X K_perform_d 23 2 rfl ?_
    refine AW.callV (As := [.ref 19]) X (K_twoWholes19_m S tl n u t hW hK hn num) cb_K_42 rfl rfl K_twoWholes_im K_twoWholes_se rfl ⟨Nat.le_of_ble_eq_true rfl, Nat.le_of_ble_eq_true rfl⟩ (Nat.le_of_ble_eq_true rfl) ⟨Nat.le_of_ble_eq_true rfl, Nat.le_of_ble_eq_true rfl⟩ (K_perform_d.d 25 rfl) (fun v h' q => ?_)
    obtain ⟨rfl, q⟩ := q
    exact AW.iret X (K_perform_d.d 26 rfl) (Nat.le_of_ble_eq_true rfl) (Nat.le_of_ble_eq_true rfl) ⟨rfl, q⟩
  · refine AW.run X K_perform_d 5 1 rfl ?_
    exact AW.iret X (K_perform_d.d 6 rfl) (Nat.le_of_ble_eq_true rfl) (Nat.le_of_ble_eq_true rfl) (kp_e (c := 9) (by rw [pS_19]; unfold pidm; rw [if_pos (by have := mt (nI_leI (a := 2) (b := n) (by decide) (by have := hW.1; omega)).mpr (fun z => q4 (by rw [hK.1]; exact z)); omega)]; rfl) (by decide) rfl)

set_option maxHeartbeats 4000000 in
set_option maxRecDepth 100000 in
theorem K_perform20_m {l : Launch} {G : ax_G} (S : x_S) (tl : List va_E) (n : Nat) (u : Nat → Int) (t : Nat → Bool) (hW : WS n u t) (hK : KS S n u t) (num : Int) (hx : zI num) :
    AM l VV G K_perform_y K_perform_c 3 (some .int) 4 0 0 [.ref 150, .ref 20, .int (iZ num)] (x_hC S tl) (fun v h' => kp S tl (pS 20 num n u t) v h') := by
  refine AM.of (pl := pl_K) (by decide) v_good fl_K_ok kl_K_ok nofun (Nat.le_of_ble_eq_true rfl) ?_
  intro p e s m args below meth c X
  refine AW.run X K_perform_d 0 4 rfl ?_
  refine AW.icmp_ge X (K_perform_d.d 4 rfl) (fun q4 => ?_) (fun q4 => ?_)
  · have hn : 2 ≤ n := (nI_leI (a := 2) (b := n) (by decide) (by have := hW.1; omega)).mp (by rw [← hK.1]; exact q4)
    refine AW.run X K_perform_d 7 2 rfl ?_
    refine AW.tableIn X (K_perform_d.d 9 rfl) (by decide) (by decide) (off := 69) (by decide) ?_
    refine AW.run X K_perform_d 23 2 rfl ?_
    refine AW.callV (As := [.ref 20]) X (K_twoWholes20_m S tl n u t hW hK hn num) cb_K_42 rfl rfl K_twoWholes_im K_twoWholes_se rfl ⟨Nat.le_of_ble_eq_true rfl, Nat.le_of_ble_eq_true rfl⟩ (Nat.le_of_ble_eq_true rfl) ⟨Nat.le_of_ble_eq_true rfl, Nat.le_of_ble_eq_true rfl⟩ (K_perform_d.d 25 rfl) (fun v h' q => ?_)
    obtain ⟨rfl, q⟩ := q
    exact AW.iret X (K_perform_d.d 26 rfl) (Nat.le_of_ble_eq_true rfl) (Nat.le_of_ble_eq_true rfl) ⟨rfl, q⟩
  · refine AW.run X K_perform_d 5 1 rfl ?_
    exact AW.iret X (K_perform_d.d 6 rfl) (Nat.le_of_ble_eq_true rfl) (Nat.le_of_ble_eq_true rfl) (kp_e (c := 9) (by rw [pS_20]; unfold pshift; rw [if_pos (by have := mt (nI_leI (a := 2) (b := n) (by decide) (by have := hW.1; omega)).mpr (fun z => q4 (by rw [hK.1]; exact z)); omega)]; rfl) (by decide) rfl)

set_option maxHeartbeats 4000000 in
set_option maxRecDepth 100000 in
theorem K_perform21_m {l : Launch} {G : ax_G} (S : x_S) (tl : List va_E) (n : Nat) (u : Nat → Int) (t : Nat → Bool) (hW : WS n u t) (hK : KS S n u t) (num : Int) (hx : zI num) :
    AM l VV G K_perform_y K_perform_c 3 (some .int) 4 0 0 [.ref 150, .ref 21, .int (iZ num)] (x_hC S tl) (fun v h' => kp S tl (pS 21 num n u t) v h') := by
  refine AM.of (pl := pl_K) (by decide) v_good fl_K_ok kl_K_ok nofun (Nat.le_of_ble_eq_true rfl) ?_
  intro p e s m args below meth c X
  refine AW.run X K_perform_d 0 4 rfl ?_
  refine AW.icmp_ge X (K_perform_d.d 4 rfl) (fun q4 => ?_) (fun q4 => ?_)
  · have hn : 2 ≤ n := (nI_leI (a := 2) (b := n) (by decide) (by have := hW.1; omega)).mp (by rw [← hK.1]; exact q4)
    refine AW.run X K_perform_d 7 2 rfl ?_
    refine AW.tableIn X (K_perform_d.d 9 rfl) (by decide) (by decide) (off := 75) (by decide) ?_
    refine AW.run X K_perform_d 27 2 rfl ?_
    refine AW.callV (As := [.ref 21]) X (K_comparison21_m S tl n u t hW hK hn num) cb_K_45 rfl rfl K_comparison_im K_comparison_se rfl ⟨Nat.le_of_ble_eq_true rfl, Nat.le_of_ble_eq_true rfl⟩ (Nat.le_of_ble_eq_true rfl) ⟨Nat.le_of_ble_eq_true rfl, Nat.le_of_ble_eq_true rfl⟩ (K_perform_d.d 29 rfl) (fun v h' q => ?_)
    obtain ⟨rfl, q⟩ := q
    exact AW.iret X (K_perform_d.d 30 rfl) (Nat.le_of_ble_eq_true rfl) (Nat.le_of_ble_eq_true rfl) ⟨rfl, q⟩
  · refine AW.run X K_perform_d 5 1 rfl ?_
    exact AW.iret X (K_perform_d.d 6 rfl) (Nat.le_of_ble_eq_true rfl) (Nat.le_of_ble_eq_true rfl) (kp_e (c := 9) (by rw [pS_21]; unfold pcmp; rw [if_pos (by have := mt (nI_leI (a := 2) (b := n) (by decide) (by have := hW.1; omega)).mpr (fun z => q4 (by rw [hK.1]; exact z)); omega)]; rfl) (by decide) rfl)

set_option maxHeartbeats 4000000 in
set_option maxRecDepth 100000 in
theorem K_perform22_m {l : Launch} {G : ax_G} (S : x_S) (tl : List va_E) (n : Nat) (u : Nat → Int) (t : Nat → Bool) (hW : WS n u t) (hK : KS S n u t) (num : Int) (hx : zI num) :
    AM l VV G K_perform_y K_perform_c 3 (some .int) 4 0 0 [.ref 150, .ref 22, .int (iZ num)] (x_hC S tl) (fun v h' => kp S tl (pS 22 num n u t) v h') := by
  refine AM.of (pl := pl_K) (by decide) v_good fl_K_ok kl_K_ok nofun (Nat.le_of_ble_eq_true rfl) ?_
  intro p e s m args below meth c X
  refine AW.run X K_perform_d 0 4 rfl ?_
  refine AW.icmp_ge X (K_perform_d.d 4 rfl) (fun q4 => ?_) (fun q4 => ?_)
  · have hn : 2 ≤ n := (nI_leI (a := 2) (b := n) (by decide) (by have := hW.1; omega)).mp (by rw [← hK.1]; exact q4)
    refine AW.run X K_perform_d 7 2 rfl ?_
    refine AW.tableIn X (K_perform_d.d 9 rfl) (by decide) (by decide) (off := 75) (by decide) ?_
    refine AW.run X K_perform_d 27 2 rfl ?_
    refine AW.callV (As := [.ref 22]) X (K_comparison22_m S tl n u t hW hK hn num) cb_K_45 rfl rfl K_comparison_im K_comparison_se rfl ⟨Nat.le_of_ble_eq_true rfl, Nat.le_of_ble_eq_true rfl⟩ (Nat.le_of_ble_eq_true rfl) ⟨Nat.le_of_ble_eq_true rfl, Nat.le_of_ble_eq_true rfl⟩ (K_perform_d.d 29 rfl) (fun v h' q => ?_)
    obtain ⟨rfl, q⟩ := q
    exact AW.iret X (K_perform_d.d 30 rfl) (Nat.le_of_ble_eq_true rfl) (Nat.le_of_ble_eq_true rfl) ⟨rfl, q⟩
  · refine AW.run X K_perform_d 5 1 rfl ?_
    exact AW.iret X (K_perform_d.d 6 rfl) (Nat.le_of_ble_eq_true rfl) (Nat.le_of_ble_eq_true rfl) (kp_e (c := 9) (by rw [pS_22]; unfold pcmp; rw [if_pos (by have := mt (nI_leI (a := 2) (b := n) (by decide) (by have := hW.1; omega)).mpr (fun z => q4 (by rw [hK.1]; exact z)); omega)]; rfl) (by decide) rfl)

set_option maxHeartbeats 4000000 in
set_option maxRecDepth 100000 in
theorem K_perform23_m {l : Launch} {G : ax_G} (S : x_S) (tl : List va_E) (n : Nat) (u : Nat → Int) (t : Nat → Bool) (hW : WS n u t) (hK : KS S n u t) (num : Int) (hx : zI num) :
    AM l VV G K_perform_y K_perform_c 3 (some .int) 4 0 0 [.ref 150, .ref 23, .int (iZ num)] (x_hC S tl) (fun v h' => kp S tl (pS 23 num n u t) v h') := by
  refine AM.of (pl := pl_K) (by decide) v_good fl_K_ok kl_K_ok nofun (Nat.le_of_ble_eq_true rfl) ?_
  intro p e s m args below meth c X
  refine AW.run X K_perform_d 0 4 rfl ?_
  refine AW.icmp_ge X (K_perform_d.d 4 rfl) (fun q4 => ?_) (fun q4 => ?_)
  · have hn : 2 ≤ n := (nI_leI (a := 2) (b := n) (by decide) (by have := hW.1; omega)).mp (by rw [← hK.1]; exact q4)
    refine AW.run X K_perform_d 7 2 rfl ?_
    refine AW.tableIn X (K_perform_d.d 9 rfl) (by decide) (by decide) (off := 75) (by decide) ?_
    refine AW.run X K_perform_d 27 2 rfl ?_
    refine AW.callV (As := [.ref 23]) X (K_comparison23_m S tl n u t hW hK hn num) cb_K_45 rfl rfl K_comparison_im K_comparison_se rfl ⟨Nat.le_of_ble_eq_true rfl, Nat.le_of_ble_eq_true rfl⟩ (Nat.le_of_ble_eq_true rfl) ⟨Nat.le_of_ble_eq_true rfl, Nat.le_of_ble_eq_true rfl⟩ (K_perform_d.d 29 rfl) (fun v h' q => ?_)
    obtain ⟨rfl, q⟩ := q
    exact AW.iret X (K_perform_d.d 30 rfl) (Nat.le_of_ble_eq_true rfl) (Nat.le_of_ble_eq_true rfl) ⟨rfl, q⟩
  · refine AW.run X K_perform_d 5 1 rfl ?_
    exact AW.iret X (K_perform_d.d 6 rfl) (Nat.le_of_ble_eq_true rfl) (Nat.le_of_ble_eq_true rfl) (kp_e (c := 9) (by rw [pS_23]; unfold pcmp; rw [if_pos (by have := mt (nI_leI (a := 2) (b := n) (by decide) (by have := hW.1; omega)).mpr (fun z => q4 (by rw [hK.1]; exact z)); omega)]; rfl) (by decide) rfl)

set_option maxHeartbeats 4000000 in
set_option maxRecDepth 100000 in
theorem K_perform24_m {l : Launch} {G : ax_G} (S : x_S) (tl : List va_E) (n : Nat) (u : Nat → Int) (t : Nat → Bool) (hW : WS n u t) (hK : KS S n u t) (num : Int) (hx : zI num) :
    AM l VV G K_perform_y K_perform_c 3 (some .int) 4 0 0 [.ref 150, .ref 24, .int (iZ num)] (x_hC S tl) (fun v h' => kp S tl (pS 24 num n u t) v h') := by
  refine AM.of (pl := pl_K) (by decide) v_good fl_K_ok kl_K_ok nofun (Nat.le_of_ble_eq_true rfl) ?_
  intro p e s m args below meth c X
  refine AW.run X K_perform_d 0 4 rfl ?_
  refine AW.icmp_ge X (K_perform_d.d 4 rfl) (fun q4 => ?_) (fun q4 => ?_)
  · have hn : 2 ≤ n := (nI_leI (a := 2) (b := n) (by decide) (by have := hW.1; omega)).mp (by rw [← hK.1]; exact q4)
    refine AW.run X K_perform_d 7 2 rfl ?_
    refine AW.tableIn X (K_perform_d.d 9 rfl) (by decide) (by decide) (off := 75) (by decide) ?_
    refine AW.run X K_perform_d 27 2 rfl ?_
    refine AW.callV (As := [.ref 24]) X (K_comparison24_m S tl n u t hW hK hn num) cb_K_45 rfl rfl K_comparison_im K_comparison_se rfl ⟨Nat.le_of_ble_eq_true rfl, Nat.le_of_ble_eq_true rfl⟩ (Nat.le_of_ble_eq_true rfl) ⟨Nat.le_of_ble_eq_true rfl, Nat.le_of_ble_eq_true rfl⟩ (K_perform_d.d 29 rfl) (fun v h' q => ?_)
    obtain ⟨rfl, q⟩ := q
    exact AW.iret X (K_perform_d.d 30 rfl) (Nat.le_of_ble_eq_true rfl) (Nat.le_of_ble_eq_true rfl) ⟨rfl, q⟩
  · refine AW.run X K_perform_d 5 1 rfl ?_
    exact AW.iret X (K_perform_d.d 6 rfl) (Nat.le_of_ble_eq_true rfl) (Nat.le_of_ble_eq_true rfl) (kp_e (c := 9) (by rw [pS_24]; unfold pcmp; rw [if_pos (by have := mt (nI_leI (a := 2) (b := n) (by decide) (by have := hW.1; omega)).mpr (fun z => q4 (by rw [hK.1]; exact z)); omega)]; rfl) (by decide) rfl)

set_option maxHeartbeats 4000000 in
set_option maxRecDepth 100000 in
theorem K_perform25_m {l : Launch} {G : ax_G} (S : x_S) (tl : List va_E) (n : Nat) (u : Nat → Int) (t : Nat → Bool) (hW : WS n u t) (hK : KS S n u t) (num : Int) (hx : zI num) :
    AM l VV G K_perform_y K_perform_c 3 (some .int) 4 0 0 [.ref 150, .ref 25, .int (iZ num)] (x_hC S tl) (fun v h' => kp S tl (pS 25 num n u t) v h') := by
  refine AM.of (pl := pl_K) (by decide) v_good fl_K_ok kl_K_ok nofun (Nat.le_of_ble_eq_true rfl) ?_
  intro p e s m args below meth c X
  refine AW.run X K_perform_d 0 4 rfl ?_
  refine AW.icmp_ge X (K_perform_d.d 4 rfl) (fun q4 => ?_) (fun q4 => ?_)
  · have hn : 2 ≤ n := (nI_leI (a := 2) (b := n) (by decide) (by have := hW.1; omega)).mp (by rw [← hK.1]; exact q4)
    refine AW.run X K_perform_d 7 2 rfl ?_
    refine AW.tableIn X (K_perform_d.d 9 rfl) (by decide) (by decide) (off := 75) (by decide) ?_
    refine AW.run X K_perform_d 27 2 rfl ?_
    refine AW.callV (As := [.ref 25]) X (K_comparison25_m S tl n u t hW hK hn num) cb_K_45 rfl rfl K_comparison_im K_comparison_se rfl ⟨Nat.le_of_ble_eq_true rfl, Nat.le_of_ble_eq_true rfl⟩ (Nat.le_of_ble_eq_true rfl) ⟨Nat.le_of_ble_eq_true rfl, Nat.le_of_ble_eq_true rfl⟩ (K_perform_d.d 29 rfl) (fun v h' q => ?_)
    obtain ⟨rfl, q⟩ := q
    exact AW.iret X (K_perform_d.d 30 rfl) (Nat.le_of_ble_eq_true rfl) (Nat.le_of_ble_eq_true rfl) ⟨rfl, q⟩
  · refine AW.run X K_perform_d 5 1 rfl ?_
    exact AW.iret X (K_perform_d.d 6 rfl) (Nat.le_of_ble_eq_true rfl) (Nat.le_of_ble_eq_true rfl) (kp_e (c := 9) (by rw [pS_25]; unfold pcmp; rw [if_pos (by have := mt (nI_leI (a := 2) (b := n) (by decide) (by have := hW.1; omega)).mpr (fun z => q4 (by rw [hK.1]; exact z)); omega)]; rfl) (by decide) rfl)

set_option maxHeartbeats 4000000 in
set_option maxRecDepth 100000 in
theorem K_perform26_m {l : Launch} {G : ax_G} (S : x_S) (tl : List va_E) (n : Nat) (u : Nat → Int) (t : Nat → Bool) (hW : WS n u t) (hK : KS S n u t) (num : Int) (hx : zI num) :
    AM l VV G K_perform_y K_perform_c 3 (some .int) 4 0 0 [.ref 150, .ref 26, .int (iZ num)] (x_hC S tl) (fun v h' => kp S tl (pS 26 num n u t) v h') := by
  refine AM.of (pl := pl_K) (by decide) v_good fl_K_ok kl_K_ok nofun (Nat.le_of_ble_eq_true rfl) ?_
  intro p e s m args below meth c X
  refine AW.run X K_perform_d 0 4 rfl ?_
  refine AW.icmp_ge X (K_perform_d.d 4 rfl) (fun q4 => ?_) (fun q4 => ?_)
  · have hn : 2 ≤ n := (nI_leI (a := 2) (b := n) (by decide) (by have := hW.1; omega)).mp (by rw [← hK.1]; exact q4)
    refine AW.run X K_perform_d 7 2 rfl ?_
    refine AW.tableIn X (K_perform_d.d 9 rfl) (by decide) (by decide) (off := 75) (by decide) ?_
    refine AW.run X K_perform_d 27 2 rfl ?_
    refine AW.callV (As := [.ref 26]) X (K_comparison26_m S tl n u t hW hK hn num) cb_K_45 rfl rfl K_comparison_im K_comparison_se rfl ⟨Nat.le_of_ble_eq_true rfl, Nat.le_of_ble_eq_true rfl⟩ (Nat.le_of_ble_eq_true rfl) ⟨Nat.le_of_ble_eq_true rfl, Nat.le_of_ble_eq_true rfl⟩ (K_perform_d.d 29 rfl) (fun v h' q => ?_)
    obtain ⟨rfl, q⟩ := q
    exact AW.iret X (K_perform_d.d 30 rfl) (Nat.le_of_ble_eq_true rfl) (Nat.le_of_ble_eq_true rfl) ⟨rfl, q⟩
  · refine AW.run X K_perform_d 5 1 rfl ?_
    exact AW.iret X (K_perform_d.d 6 rfl) (Nat.le_of_ble_eq_true rfl) (Nat.le_of_ble_eq_true rfl) (kp_e (c := 9) (by rw [pS_26]; unfold pcmp; rw [if_pos (by have := mt (nI_leI (a := 2) (b := n) (by decide) (by have := hW.1; omega)).mpr (fun z => q4 (by rw [hK.1]; exact z)); omega)]; rfl) (by decide) rfl)

set_option maxHeartbeats 4000000 in
set_option maxRecDepth 100000 in
theorem K_perform27_m {l : Launch} {G : ax_G} (S : x_S) (tl : List va_E) (n : Nat) (u : Nat → Int) (t : Nat → Bool) (hW : WS n u t) (hK : KS S n u t) (num : Int) (hx : zI num) :
    AM l VV G K_perform_y K_perform_c 3 (some .int) 4 0 0 [.ref 150, .ref 27, .int (iZ num)] (x_hC S tl) (fun v h' => kp S tl (pS 27 num n u t) v h') := by
  refine AM.of (pl := pl_K) (by decide) v_good fl_K_ok kl_K_ok nofun (Nat.le_of_ble_eq_true rfl) ?_
  intro p e s m args below meth c X
  refine AW.run X K_perform_d 0 4 rfl ?_
  refine AW.icmp_ge X (K_perform_d.d 4 rfl) (fun q4 => ?_) (fun q4 => ?_)
  · have hn : 2 ≤ n := (nI_leI (a := 2) (b := n) (by decide) (by have := hW.1; omega)).mp (by rw [← hK.1]; exact q4)
    refine AW.run X K_perform_d 7 2 rfl ?_
    refine AW.tableIn X (K_perform_d.d 9 rfl) (by decide) (by decide) (off := 81) (by decide) ?_
    refine AW.run X K_perform_d 31 1 rfl ?_
    refine AW.gets X gs_K_48.1 gs_K_48.2 (K_perform_d.d 32 rfl) ?_
    refine AW.acmp_ne X (some 27) (some 30) (Or.inl (by decide)) (Or.inl (by decide)) (K_perform_d.d 33 rfl) (fun q => ?_) (fun q => absurd q (by decide))
    refine AW.run X K_perform_d 37 2 rfl ?_
    refine AW.callV (As := [.ref 27]) X (K_logic27_m S tl n u t hW hK hn num) cb_K_56 rfl rfl K_logic_im K_logic_se rfl ⟨Nat.le_of_ble_eq_true rfl, Nat.le_of_ble_eq_true rfl⟩ (Nat.le_of_ble_eq_true rfl) ⟨Nat.le_of_ble_eq_true rfl, Nat.le_of_ble_eq_true rfl⟩ (K_perform_d.d 39 rfl) (fun v h' q => ?_)
    obtain ⟨rfl, q⟩ := q
    exact AW.iret X (K_perform_d.d 40 rfl) (Nat.le_of_ble_eq_true rfl) (Nat.le_of_ble_eq_true rfl) ⟨rfl, q⟩
  · refine AW.run X K_perform_d 5 1 rfl ?_
    exact AW.iret X (K_perform_d.d 6 rfl) (Nat.le_of_ble_eq_true rfl) (Nat.le_of_ble_eq_true rfl) (kp_e (c := 9) (by rw [pS_27]; unfold plog; rw [if_pos (by have := mt (nI_leI (a := 2) (b := n) (by decide) (by have := hW.1; omega)).mpr (fun z => q4 (by rw [hK.1]; exact z)); omega)]; rfl) (by decide) rfl)

set_option maxHeartbeats 4000000 in
set_option maxRecDepth 100000 in
theorem K_perform28_m {l : Launch} {G : ax_G} (S : x_S) (tl : List va_E) (n : Nat) (u : Nat → Int) (t : Nat → Bool) (hW : WS n u t) (hK : KS S n u t) (num : Int) (hx : zI num) :
    AM l VV G K_perform_y K_perform_c 3 (some .int) 4 0 0 [.ref 150, .ref 28, .int (iZ num)] (x_hC S tl) (fun v h' => kp S tl (pS 28 num n u t) v h') := by
  refine AM.of (pl := pl_K) (by decide) v_good fl_K_ok kl_K_ok nofun (Nat.le_of_ble_eq_true rfl) ?_
  intro p e s m args below meth c X
  refine AW.run X K_perform_d 0 4 rfl ?_
  refine AW.icmp_ge X (K_perform_d.d 4 rfl) (fun q4 => ?_) (fun q4 => ?_)
  · have hn : 2 ≤ n := (nI_leI (a := 2) (b := n) (by decide) (by have := hW.1; omega)).mp (by rw [← hK.1]; exact q4)
    refine AW.run X K_perform_d 7 2 rfl ?_
    refine AW.tableIn X (K_perform_d.d 9 rfl) (by decide) (by decide) (off := 81) (by decide) ?_
    refine AW.run X K_perform_d 31 1 rfl ?_
    refine AW.gets X gs_K_48.1 gs_K_48.2 (K_perform_d.d 32 rfl) ?_
    refine AW.acmp_ne X (some 28) (some 30) (Or.inl (by decide)) (Or.inl (by decide)) (K_perform_d.d 33 rfl) (fun q => ?_) (fun q => absurd q (by decide))
    refine AW.run X K_perform_d 37 2 rfl ?_
    refine AW.callV (As := [.ref 28]) X (K_logic28_m S tl n u t hW hK hn num) cb_K_56 rfl rfl K_logic_im K_logic_se rfl ⟨Nat.le_of_ble_eq_true rfl, Nat.le_of_ble_eq_true rfl⟩ (Nat.le_of_ble_eq_true rfl) ⟨Nat.le_of_ble_eq_true rfl, Nat.le_of_ble_eq_true rfl⟩ (K_perform_d.d 39 rfl) (fun v h' q => ?_)
    obtain ⟨rfl, q⟩ := q
    exact AW.iret X (K_perform_d.d 40 rfl) (Nat.le_of_ble_eq_true rfl) (Nat.le_of_ble_eq_true rfl) ⟨rfl, q⟩
  · refine AW.run X K_perform_d 5 1 rfl ?_
    exact AW.iret X (K_perform_d.d 6 rfl) (Nat.le_of_ble_eq_true rfl) (Nat.le_of_ble_eq_true rfl) (kp_e (c := 9) (by rw [pS_28]; unfold plog; rw [if_pos (by have := mt (nI_leI (a := 2) (b := n) (by decide) (by have := hW.1; omega)).mpr (fun z => q4 (by rw [hK.1]; exact z)); omega)]; rfl) (by decide) rfl)

set_option maxHeartbeats 4000000 in
set_option maxRecDepth 100000 in
theorem K_perform29_m {l : Launch} {G : ax_G} (S : x_S) (tl : List va_E) (n : Nat) (u : Nat → Int) (t : Nat → Bool) (hW : WS n u t) (hK : KS S n u t) (num : Int) (hx : zI num) :
    AM l VV G K_perform_y K_perform_c 3 (some .int) 4 0 0 [.ref 150, .ref 29, .int (iZ num)] (x_hC S tl) (fun v h' => kp S tl (pS 29 num n u t) v h') := by
  refine AM.of (pl := pl_K) (by decide) v_good fl_K_ok kl_K_ok nofun (Nat.le_of_ble_eq_true rfl) ?_
  intro p e s m args below meth c X
  refine AW.run X K_perform_d 0 4 rfl ?_
  refine AW.icmp_ge X (K_perform_d.d 4 rfl) (fun q4 => ?_) (fun q4 => ?_)
  · have hn : 2 ≤ n := (nI_leI (a := 2) (b := n) (by decide) (by have := hW.1; omega)).mp (by rw [← hK.1]; exact q4)
    refine AW.run X K_perform_d 7 2 rfl ?_
    refine AW.tableIn X (K_perform_d.d 9 rfl) (by decide) (by decide) (off := 81) (by decide) ?_
    refine AW.run X K_perform_d 31 1 rfl ?_
    refine AW.gets X gs_K_48.1 gs_K_48.2 (K_perform_d.d 32 rfl) ?_
    refine AW.acmp_ne X (some 29) (some 30) (Or.inl (by decide)) (Or.inl (by decide)) (K_perform_d.d 33 rfl) (fun q => ?_) (fun q => absurd q (by decide))
    refine AW.run X K_perform_d 37 2 rfl ?_
    refine AW.callV (As := [.ref 29]) X (K_logic29_m S tl n u t hW hK hn num) cb_K_56 rfl rfl K_logic_im K_logic_se rfl ⟨Nat.le_of_ble_eq_true rfl, Nat.le_of_ble_eq_true rfl⟩ (Nat.le_of_ble_eq_true rfl) ⟨Nat.le_of_ble_eq_true rfl, Nat.le_of_ble_eq_true rfl⟩ (K_perform_d.d 39 rfl) (fun v h' q => ?_)
    obtain ⟨rfl, q⟩ := q
    exact AW.iret X (K_perform_d.d 40 rfl) (Nat.le_of_ble_eq_true rfl) (Nat.le_of_ble_eq_true rfl) ⟨rfl, q⟩
  · refine AW.run X K_perform_d 5 1 rfl ?_
    exact AW.iret X (K_perform_d.d 6 rfl) (Nat.le_of_ble_eq_true rfl) (Nat.le_of_ble_eq_true rfl) (kp_e (c := 9) (by rw [pS_29]; unfold plog; rw [if_pos (by have := mt (nI_leI (a := 2) (b := n) (by decide) (by have := hW.1; omega)).mpr (fun z => q4 (by rw [hK.1]; exact z)); omega)]; rfl) (by decide) rfl)

set_option maxHeartbeats 4000000 in
set_option maxRecDepth 100000 in
theorem K_perform30_m {l : Launch} {G : ax_G} (S : x_S) (tl : List va_E) (n : Nat) (u : Nat → Int) (t : Nat → Bool) (hW : WS n u t) (hK : KS S n u t) (num : Int) (hx : zI num) :
    AM l VV G K_perform_y K_perform_c 3 (some .int) 4 0 0 [.ref 150, .ref 30, .int (iZ num)] (x_hC S tl) (fun v h' => kp S tl (pS 30 num n u t) v h') := by
  refine AM.of (pl := pl_K) (by decide) v_good fl_K_ok kl_K_ok nofun (Nat.le_of_ble_eq_true rfl) ?_
  intro p e s m args below meth c X
  refine AW.run X K_perform_d 0 4 rfl ?_
  refine AW.icmp_ge X (K_perform_d.d 4 rfl) (fun q4 => ?_) (fun q4 => ?_)
  · have hn : 1 ≤ n := (nI_leI (a := 1) (b := n) (by decide) (by have := hW.1; omega)).mp (by rw [← hK.1]; exact q4)
    refine AW.run X K_perform_d 7 2 rfl ?_
    refine AW.tableIn X (K_perform_d.d 9 rfl) (by decide) (by decide) (off := 81) (by decide) ?_
    refine AW.run X K_perform_d 31 1 rfl ?_
    refine AW.gets X gs_K_48.1 gs_K_48.2 (K_perform_d.d 32 rfl) ?_
    refine AW.acmp_ne X (some 30) (some 30) (Or.inl (by decide)) (Or.inl (by decide)) (K_perform_d.d 33 rfl) (fun q => absurd rfl q) (fun q => ?_)
    refine AW.run X K_perform_d 34 1 rfl ?_
    refine AW.callV (As := []) X (K_negation_m S tl n u t hW hK hn num) cb_K_52 rfl rfl K_negation_im K_negation_se rfl ⟨Nat.le_of_ble_eq_true rfl, Nat.le_of_ble_eq_true rfl⟩ (Nat.le_of_ble_eq_true rfl) ⟨Nat.le_of_ble_eq_true rfl, Nat.le_of_ble_eq_true rfl⟩ (K_perform_d.d 35 rfl) (fun v h' q => ?_)
    obtain ⟨rfl, q⟩ := q
    refine AW.goto X (K_perform_d.d 36 rfl) ?_
    exact AW.iret X (K_perform_d.d 40 rfl) (Nat.le_of_ble_eq_true rfl) (Nat.le_of_ble_eq_true rfl) ⟨rfl, q⟩
  · refine AW.run X K_perform_d 5 1 rfl ?_
    exact AW.iret X (K_perform_d.d 6 rfl) (Nat.le_of_ble_eq_true rfl) (Nat.le_of_ble_eq_true rfl) (kp_e (c := 9) (by rw [pS_30]; unfold pnot; rw [if_pos (by have := mt (nI_leI (a := 1) (b := n) (by decide) (by have := hW.1; omega)).mpr (fun z => q4 (by rw [hK.1]; exact z)); omega)]; rfl) (by decide) rfl)

set_option maxHeartbeats 4000000 in
set_option maxRecDepth 100000 in
theorem K_perform31_m {l : Launch} {G : ax_G} (S : x_S) (tl : List va_E) (n : Nat) (u : Nat → Int) (t : Nat → Bool) (hW : WS n u t) (hK : KS S n u t) (num : Int) (hx : zI num) :
    AM l VV G K_perform_y K_perform_c 3 (some .int) 4 0 0 [.ref 150, .ref 31, .int (iZ num)] (x_hC S tl) (fun v h' => kp S tl (pS 31 num n u t) v h') := by
  refine AM.of (pl := pl_K) (by decide) v_good fl_K_ok kl_K_ok nofun (Nat.le_of_ble_eq_true rfl) ?_
  intro p e s m args below meth c X
  refine AW.run X K_perform_d 0 4 rfl ?_
  refine AW.icmp_ge X (K_perform_d.d 4 rfl) (fun q4 => ?_) (fun q4 => ?_)
  · have hn : 1 ≤ n := (nI_leI (a := 1) (b := n) (by decide) (by have := hW.1; omega)).mp (by rw [← hK.1]; exact q4)
    refine AW.run X K_perform_d 7 2 rfl ?_
    refine AW.tableIn X (K_perform_d.d 9 rfl) (by decide) (by decide) (off := 101) (by decide) ?_
    refine AW.run X K_perform_d 41 2 rfl ?_
    refine AW.callV (As := [.ref 31]) X (K_move31_m S tl n u t hW hK hn num) cb_K_59 rfl rfl K_move_im K_move_se rfl ⟨Nat.le_of_ble_eq_true rfl, Nat.le_of_ble_eq_true rfl⟩ (Nat.le_of_ble_eq_true rfl) ⟨Nat.le_of_ble_eq_true rfl, Nat.le_of_ble_eq_true rfl⟩ (K_perform_d.d 43 rfl) (fun v h' q => ?_)
    obtain ⟨rfl, q⟩ := q
    exact AW.iret X (K_perform_d.d 44 rfl) (Nat.le_of_ble_eq_true rfl) (Nat.le_of_ble_eq_true rfl) ⟨rfl, q⟩
  · refine AW.run X K_perform_d 5 1 rfl ?_
    exact AW.iret X (K_perform_d.d 6 rfl) (Nat.le_of_ble_eq_true rfl) (Nat.le_of_ble_eq_true rfl) (kp_e (c := 9) (by rw [pS_31]; unfold ppop; rw [if_pos (by have := mt (nI_leI (a := 1) (b := n) (by decide) (by have := hW.1; omega)).mpr (fun z => q4 (by rw [hK.1]; exact z)); omega)]; rfl) (by decide) rfl)

set_option maxHeartbeats 4000000 in
set_option maxRecDepth 100000 in
theorem K_perform32_m {l : Launch} {G : ax_G} (S : x_S) (tl : List va_E) (n : Nat) (u : Nat → Int) (t : Nat → Bool) (hW : WS n u t) (hK : KS S n u t) (num : Int) (hx : zI num) :
    AM l VV G K_perform_y K_perform_c 3 (some .int) 4 0 0 [.ref 150, .ref 32, .int (iZ num)] (x_hC S tl) (fun v h' => kp S tl (pS 32 num n u t) v h') := by
  refine AM.of (pl := pl_K) (by decide) v_good fl_K_ok kl_K_ok nofun (Nat.le_of_ble_eq_true rfl) ?_
  intro p e s m args below meth c X
  refine AW.run X K_perform_d 0 4 rfl ?_
  refine AW.icmp_ge X (K_perform_d.d 4 rfl) (fun q4 => ?_) (fun q4 => ?_)
  · have hn : 2 ≤ n := (nI_leI (a := 2) (b := n) (by decide) (by have := hW.1; omega)).mp (by rw [← hK.1]; exact q4)
    refine AW.run X K_perform_d 7 2 rfl ?_
    refine AW.tableIn X (K_perform_d.d 9 rfl) (by decide) (by decide) (off := 101) (by decide) ?_
    refine AW.run X K_perform_d 41 2 rfl ?_
    refine AW.callV (As := [.ref 32]) X (K_move32_m S tl n u t hW hK hn num) cb_K_59 rfl rfl K_move_im K_move_se rfl ⟨Nat.le_of_ble_eq_true rfl, Nat.le_of_ble_eq_true rfl⟩ (Nat.le_of_ble_eq_true rfl) ⟨Nat.le_of_ble_eq_true rfl, Nat.le_of_ble_eq_true rfl⟩ (K_perform_d.d 43 rfl) (fun v h' q => ?_)
    obtain ⟨rfl, q⟩ := q
    exact AW.iret X (K_perform_d.d 44 rfl) (Nat.le_of_ble_eq_true rfl) (Nat.le_of_ble_eq_true rfl) ⟨rfl, q⟩
  · refine AW.run X K_perform_d 5 1 rfl ?_
    exact AW.iret X (K_perform_d.d 6 rfl) (Nat.le_of_ble_eq_true rfl) (Nat.le_of_ble_eq_true rfl) (kp_e (c := 9) (by rw [pS_32]; unfold pexch; rw [if_pos (by have := mt (nI_leI (a := 2) (b := n) (by decide) (by have := hW.1; omega)).mpr (fun z => q4 (by rw [hK.1]; exact z)); omega)]; rfl) (by decide) rfl)

set_option maxHeartbeats 4000000 in
set_option maxRecDepth 100000 in
theorem K_perform33_m {l : Launch} {G : ax_G} (S : x_S) (tl : List va_E) (n : Nat) (u : Nat → Int) (t : Nat → Bool) (hW : WS n u t) (hK : KS S n u t) (num : Int) (hx : zI num) :
    AM l VV G K_perform_y K_perform_c 3 (some .int) 4 0 0 [.ref 150, .ref 33, .int (iZ num)] (x_hC S tl) (fun v h' => kp S tl (pS 33 num n u t) v h') := by
  refine AM.of (pl := pl_K) (by decide) v_good fl_K_ok kl_K_ok nofun (Nat.le_of_ble_eq_true rfl) ?_
  intro p e s m args below meth c X
  refine AW.run X K_perform_d 0 4 rfl ?_
  refine AW.icmp_ge X (K_perform_d.d 4 rfl) (fun q4 => ?_) (fun q4 => ?_)
  · have hn : 1 ≤ n := (nI_leI (a := 1) (b := n) (by decide) (by have := hW.1; omega)).mp (by rw [← hK.1]; exact q4)
    refine AW.run X K_perform_d 7 2 rfl ?_
    refine AW.tableIn X (K_perform_d.d 9 rfl) (by decide) (by decide) (off := 101) (by decide) ?_
    refine AW.run X K_perform_d 41 2 rfl ?_
    refine AW.callV (As := [.ref 33]) X (K_move33_m S tl n u t hW hK hn num) cb_K_59 rfl rfl K_move_im K_move_se rfl ⟨Nat.le_of_ble_eq_true rfl, Nat.le_of_ble_eq_true rfl⟩ (Nat.le_of_ble_eq_true rfl) ⟨Nat.le_of_ble_eq_true rfl, Nat.le_of_ble_eq_true rfl⟩ (K_perform_d.d 43 rfl) (fun v h' q => ?_)
    obtain ⟨rfl, q⟩ := q
    exact AW.iret X (K_perform_d.d 44 rfl) (Nat.le_of_ble_eq_true rfl) (Nat.le_of_ble_eq_true rfl) ⟨rfl, q⟩
  · refine AW.run X K_perform_d 5 1 rfl ?_
    exact AW.iret X (K_perform_d.d 6 rfl) (Nat.le_of_ble_eq_true rfl) (Nat.le_of_ble_eq_true rfl) (kp_e (c := 9) (by rw [pS_33]; unfold pdup; rw [if_pos (by have := mt (nI_leI (a := 1) (b := n) (by decide) (by have := hW.1; omega)).mpr (fun z => q4 (by rw [hK.1]; exact z)); omega)]; rfl) (by decide) rfl)

set_option maxHeartbeats 4000000 in
set_option maxRecDepth 100000 in
theorem K_perform34_m {l : Launch} {G : ax_G} (S : x_S) (tl : List va_E) (n : Nat) (u : Nat → Int) (t : Nat → Bool) (hW : WS n u t) (hK : KS S n u t) (num : Int) (hx : zI num) :
    AM l VV G K_perform_y K_perform_c 3 (some .int) 4 0 0 [.ref 150, .ref 34, .int (iZ num)] (x_hC S tl) (fun v h' => kp S tl (pS 34 num n u t) v h') := by
  refine AM.of (pl := pl_K) (by decide) v_good fl_K_ok kl_K_ok nofun (Nat.le_of_ble_eq_true rfl) ?_
  intro p e s m args below meth c X
  refine AW.run X K_perform_d 0 4 rfl ?_
  refine AW.icmp_ge X (K_perform_d.d 4 rfl) (fun q4 => ?_) (fun q4 => ?_)
  · have hn : 1 ≤ n := (nI_leI (a := 1) (b := n) (by decide) (by have := hW.1; omega)).mp (by rw [← hK.1]; exact q4)
    refine AW.run X K_perform_d 7 2 rfl ?_
    refine AW.tableIn X (K_perform_d.d 9 rfl) (by decide) (by decide) (off := 107) (by decide) ?_
    refine AW.run X K_perform_d 45 1 rfl ?_
    refine AW.gets X gs_K_62.1 gs_K_62.2 (K_perform_d.d 46 rfl) ?_
    refine AW.acmp_ne X (some 34) (some 36) (Or.inl (by decide)) (Or.inl (by decide)) (K_perform_d.d 47 rfl) (fun q => ?_) (fun q => absurd q (by decide))
    refine AW.run X K_perform_d 51 2 rfl ?_
    refine AW.callV (As := [.ref 34]) X (K_reach34_m S tl n u t hW hK hn num) cb_K_68 rfl rfl K_reach_im K_reach_se rfl ⟨Nat.le_of_ble_eq_true rfl, Nat.le_of_ble_eq_true rfl⟩ (Nat.le_of_ble_eq_true rfl) ⟨Nat.le_of_ble_eq_true rfl, Nat.le_of_ble_eq_true rfl⟩ (K_perform_d.d 53 rfl) (fun v h' q => ?_)
    obtain ⟨rfl, q⟩ := q
    exact AW.iret X (K_perform_d.d 54 rfl) (Nat.le_of_ble_eq_true rfl) (Nat.le_of_ble_eq_true rfl) ⟨rfl, q⟩
  · refine AW.run X K_perform_d 5 1 rfl ?_
    exact AW.iret X (K_perform_d.d 6 rfl) (Nat.le_of_ble_eq_true rfl) (Nat.le_of_ble_eq_true rfl) (kp_e (c := 9) (by rw [pS_34]; unfold pcopy; rw [if_pos (by have := mt (nI_leI (a := 1) (b := n) (by decide) (by have := hW.1; omega)).mpr (fun z => q4 (by rw [hK.1]; exact z)); omega)]; rfl) (by decide) rfl)

set_option maxHeartbeats 4000000 in
set_option maxRecDepth 100000 in
theorem K_perform35_m {l : Launch} {G : ax_G} (S : x_S) (tl : List va_E) (n : Nat) (u : Nat → Int) (t : Nat → Bool) (hW : WS n u t) (hK : KS S n u t) (num : Int) (hx : zI num) :
    AM l VV G K_perform_y K_perform_c 3 (some .int) 4 0 0 [.ref 150, .ref 35, .int (iZ num)] (x_hC S tl) (fun v h' => kp S tl (pS 35 num n u t) v h') := by
  refine AM.of (pl := pl_K) (by decide) v_good fl_K_ok kl_K_ok nofun (Nat.le_of_ble_eq_true rfl) ?_
  intro p e s m args below meth c X
  refine AW.run X K_perform_d 0 4 rfl ?_
  refine AW.icmp_ge X (K_perform_d.d 4 rfl) (fun q4 => ?_) (fun q4 => ?_)
  · have hn : 1 ≤ n := (nI_leI (a := 1) (b := n) (by decide) (by have := hW.1; omega)).mp (by rw [← hK.1]; exact q4)
    refine AW.run X K_perform_d 7 2 rfl ?_
    refine AW.tableIn X (K_perform_d.d 9 rfl) (by decide) (by decide) (off := 107) (by decide) ?_
    refine AW.run X K_perform_d 45 1 rfl ?_
    refine AW.gets X gs_K_62.1 gs_K_62.2 (K_perform_d.d 46 rfl) ?_
    refine AW.acmp_ne X (some 35) (some 36) (Or.inl (by decide)) (Or.inl (by decide)) (K_perform_d.d 47 rfl) (fun q => ?_) (fun q => absurd q (by decide))
    refine AW.run X K_perform_d 51 2 rfl ?_
    refine AW.callV (As := [.ref 35]) X (K_reach35_m S tl n u t hW hK hn num) cb_K_68 rfl rfl K_reach_im K_reach_se rfl ⟨Nat.le_of_ble_eq_true rfl, Nat.le_of_ble_eq_true rfl⟩ (Nat.le_of_ble_eq_true rfl) ⟨Nat.le_of_ble_eq_true rfl, Nat.le_of_ble_eq_true rfl⟩ (K_perform_d.d 53 rfl) (fun v h' q => ?_)
    obtain ⟨rfl, q⟩ := q
    exact AW.iret X (K_perform_d.d 54 rfl) (Nat.le_of_ble_eq_true rfl) (Nat.le_of_ble_eq_true rfl) ⟨rfl, q⟩
  · refine AW.run X K_perform_d 5 1 rfl ?_
    exact AW.iret X (K_perform_d.d 6 rfl) (Nat.le_of_ble_eq_true rfl) (Nat.le_of_ble_eq_true rfl) (kp_e (c := 9) (by rw [pS_35]; unfold pindex; rw [if_pos (by have := mt (nI_leI (a := 1) (b := n) (by decide) (by have := hW.1; omega)).mpr (fun z => q4 (by rw [hK.1]; exact z)); omega)]; rfl) (by decide) rfl)

set_option maxHeartbeats 4000000 in
set_option maxRecDepth 100000 in
theorem K_perform36_m {l : Launch} {G : ax_G} (S : x_S) (tl : List va_E) (n : Nat) (u : Nat → Int) (t : Nat → Bool) (hW : WS n u t) (hK : KS S n u t) (num : Int) (hx : zI num) :
    AM l VV G K_perform_y K_perform_c 3 (some .int) 4 0 0 [.ref 150, .ref 36, .int (iZ num)] (x_hC S tl) (fun v h' => kp S tl (pS 36 num n u t) v h') := by
  refine AM.of (pl := pl_K) (by decide) v_good fl_K_ok kl_K_ok nofun (Nat.le_of_ble_eq_true rfl) ?_
  intro p e s m args below meth c X
  refine AW.run X K_perform_d 0 4 rfl ?_
  refine AW.icmp_ge X (K_perform_d.d 4 rfl) (fun q4 => ?_) (fun q4 => ?_)
  · have hn : 2 ≤ n := (nI_leI (a := 2) (b := n) (by decide) (by have := hW.1; omega)).mp (by rw [← hK.1]; exact q4)
    refine AW.run X K_perform_d 7 2 rfl ?_
    refine AW.tableIn X (K_perform_d.d 9 rfl) (by decide) (by decide) (off := 107) (by decide) ?_
    refine AW.run X K_perform_d 45 1 rfl ?_
    refine AW.gets X gs_K_62.1 gs_K_62.2 (K_perform_d.d 46 rfl) ?_
    refine AW.acmp_ne X (some 36) (some 36) (Or.inl (by decide)) (Or.inl (by decide)) (K_perform_d.d 47 rfl) (fun q => absurd rfl q) (fun q => ?_)
    refine AW.run X K_perform_d 48 1 rfl ?_
    refine AW.callV (As := []) X (K_roll_m S tl n u t hW hK hn num) cb_K_65 rfl rfl K_roll_im K_roll_se rfl ⟨Nat.le_of_ble_eq_true rfl, Nat.le_of_ble_eq_true rfl⟩ (Nat.le_of_ble_eq_true rfl) ⟨Nat.le_of_ble_eq_true rfl, Nat.le_of_ble_eq_true rfl⟩ (K_perform_d.d 49 rfl) (fun v h' q => ?_)
    obtain ⟨rfl, q⟩ := q
    refine AW.goto X (K_perform_d.d 50 rfl) ?_
    exact AW.iret X (K_perform_d.d 54 rfl) (Nat.le_of_ble_eq_true rfl) (Nat.le_of_ble_eq_true rfl) ⟨rfl, q⟩
  · refine AW.run X K_perform_d 5 1 rfl ?_
    exact AW.iret X (K_perform_d.d 6 rfl) (Nat.le_of_ble_eq_true rfl) (Nat.le_of_ble_eq_true rfl) (kp_e (c := 9) (by rw [pS_36]; unfold proll; rw [if_pos (by have := mt (nI_leI (a := 2) (b := n) (by decide) (by have := hW.1; omega)).mpr (fun z => q4 (by rw [hK.1]; exact z)); omega)]; rfl) (by decide) rfl)

set_option maxHeartbeats 4000000 in
set_option maxRecDepth 100000 in
theorem K_perform37_m {l : Launch} {G : ax_G} (S : x_S) (tl : List va_E) (n : Nat) (u : Nat → Int) (t : Nat → Bool) (hW : WS n u t) (hK : KS S n u t) (num : Int) (hx : zI num) :
    AM l VV G K_perform_y K_perform_c 3 (some .int) 4 0 0 [.ref 150, .ref 37, .int (iZ num)] (x_hC S tl) (fun v h' => kq S tl (pS 37 num n u t) (u (n - 1)) v h') := by
  refine AM.of (pl := pl_K) (by decide) v_good fl_K_ok kl_K_ok nofun (Nat.le_of_ble_eq_true rfl) ?_
  intro p e s m args below meth c X
  refine AW.run X K_perform_d 0 4 rfl ?_
  refine AW.icmp_ge X (K_perform_d.d 4 rfl) (fun q4 => ?_) (fun q4 => ?_)
  · have hn : 1 ≤ n := (nI_leI (a := 1) (b := n) (by decide) (by have := hW.1; omega)).mp (by rw [← hK.1]; exact q4)
    refine AW.run X K_perform_d 7 2 rfl ?_
    refine AW.tableIn X (K_perform_d.d 9 rfl) (by decide) (by decide) (off := 127) (by decide) ?_
    refine AW.run X K_perform_d 55 1 rfl ?_
    refine AW.callV (As := []) X (K_choice_m S tl n u t hW hK hn) cb_K_71 rfl rfl K_choice_im K_choice_se rfl ⟨Nat.le_of_ble_eq_true rfl, Nat.le_of_ble_eq_true rfl⟩ (Nat.le_of_ble_eq_true rfl) ⟨Nat.le_of_ble_eq_true rfl, Nat.le_of_ble_eq_true rfl⟩ (K_perform_d.d 56 rfl) (fun v h' q => ?_)
    obtain ⟨rfl, q⟩ := q
    exact AW.iret X (K_perform_d.d 57 rfl) (Nat.le_of_ble_eq_true rfl) (Nat.le_of_ble_eq_true rfl) ⟨rfl, q⟩
  · refine AW.run X K_perform_d 5 1 rfl ?_
    exact AW.iret X (K_perform_d.d 6 rfl) (Nat.le_of_ble_eq_true rfl) (Nat.le_of_ble_eq_true rfl) ⟨by rw [pS_37]; unfold pchoice; rw [if_pos (by have := mt (nI_leI (a := 1) (b := n) (by decide) (by have := hW.1; omega)).mpr (fun z => q4 (by rw [hK.1]; exact z)); omega)]; rfl, S, rfl, KF.refl S, fun z => by rw [pS_37] at z; unfold pchoice at z; rw [if_pos (by have := mt (nI_leI (a := 1) (b := n) (by decide) (by have := hW.1; omega)).mpr (fun z => q4 (by rw [hK.1]; exact z)); omega)] at z; cases z⟩

set_option maxHeartbeats 4000000 in
set_option maxRecDepth 100000 in
theorem K_perform38_m {l : Launch} {G : ax_G} (S : x_S) (tl : List va_E) (n : Nat) (u : Nat → Int) (t : Nat → Bool) (hW : WS n u t) (hK : KS S n u t) (num : Int) (hx : zI num) :
    AM l VV G K_perform_y K_perform_c 3 (some .int) 4 0 0 [.ref 150, .ref 38, .int (iZ num)] (x_hC S tl) (fun v h' => kq S tl (pS 38 num n u t) (u (n - 1)) v h') := by
  refine AM.of (pl := pl_K) (by decide) v_good fl_K_ok kl_K_ok nofun (Nat.le_of_ble_eq_true rfl) ?_
  intro p e s m args below meth c X
  refine AW.run X K_perform_d 0 4 rfl ?_
  refine AW.icmp_ge X (K_perform_d.d 4 rfl) (fun q4 => ?_) (fun q4 => ?_)
  · have hn : 1 ≤ n := (nI_leI (a := 1) (b := n) (by decide) (by have := hW.1; omega)).mp (by rw [← hK.1]; exact q4)
    refine AW.run X K_perform_d 7 2 rfl ?_
    refine AW.tableIn X (K_perform_d.d 9 rfl) (by decide) (by decide) (off := 127) (by decide) ?_
    refine AW.run X K_perform_d 55 1 rfl ?_
    refine AW.callV (As := []) X (K_choice_m S tl n u t hW hK hn) cb_K_71 rfl rfl K_choice_im K_choice_se rfl ⟨Nat.le_of_ble_eq_true rfl, Nat.le_of_ble_eq_true rfl⟩ (Nat.le_of_ble_eq_true rfl) ⟨Nat.le_of_ble_eq_true rfl, Nat.le_of_ble_eq_true rfl⟩ (K_perform_d.d 56 rfl) (fun v h' q => ?_)
    obtain ⟨rfl, q⟩ := q
    exact AW.iret X (K_perform_d.d 57 rfl) (Nat.le_of_ble_eq_true rfl) (Nat.le_of_ble_eq_true rfl) ⟨rfl, q⟩
  · refine AW.run X K_perform_d 5 1 rfl ?_
    exact AW.iret X (K_perform_d.d 6 rfl) (Nat.le_of_ble_eq_true rfl) (Nat.le_of_ble_eq_true rfl) ⟨by rw [pS_38]; unfold pchoice; rw [if_pos (by have := mt (nI_leI (a := 1) (b := n) (by decide) (by have := hW.1; omega)).mpr (fun z => q4 (by rw [hK.1]; exact z)); omega)]; rfl, S, rfl, KF.refl S, fun z => by rw [pS_38] at z; unfold pchoice at z; rw [if_pos (by have := mt (nI_leI (a := 1) (b := n) (by decide) (by have := hW.1; omega)).mpr (fun z => q4 (by rw [hK.1]; exact z)); omega)] at z; cases z⟩

