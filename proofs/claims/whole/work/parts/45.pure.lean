/-! THE STACK MACHINE, said once for both: n values on the stack, their numbers v, whether they are truths t; what a word does: (fault or -1, n', v', t') -/
abbrev pR : Type := Int × Nat × (Nat → Int) × (Nat → Bool)
def pe (n : Nat) (v : Nat → Int) (t : Nat → Bool) (c : Int) : pR := (c, n, v, t)
def pgive (n : Nat) (v : Nat → Int) (t : Nat → Bool) (k : Nat) (x : Int) (b : Bool) : pR := if 60 ≤ n - k then (8, n, v, t) else (-1, n - k + 1, va_up v (n - k) (zk x), va_up t (n - k) b)
def pgT (n : Nat) (v : Nat → Int) (t : Nat → Bool) (k : Nat) (b : Bool) : pR := pgive n v t k (if b then 1 else 0) true
def p1 (n : Nat) (v : Nat → Int) (t : Nat → Bool) (bad : Int → Bool) (f : Int → Int) : pR := if n < 1 then pe n v t 9 else if t (n - 1) = true then pe n v t 10 else if bad (v (n - 1)) = true then pe n v t 12 else pgive n v t 1 (f (v (n - 1))) false
def p2 (n : Nat) (v : Nat → Int) (t : Nat → Bool) (bad : Int → Bool) (f : Int → Int → Int) : pR := if n < 2 then pe n v t 9 else if t (n - 2) = true ∨ t (n - 1) = true then pe n v t 10 else if bad (v (n - 1)) = true then pe n v t 13 else pgive n v t 2 (f (v (n - 2)) (v (n - 1))) false
def pwh1 (n : Nat) (v : Nat → Int) (t : Nat → Bool) : Int := if t (n - 1) = true then 10 else if v (n - 1) % 65536 ≠ 0 then 11 else -1
def pwh2 (n : Nat) (v : Nat → Int) (t : Nat → Bool) : Int := if t (n - 2) = true ∨ t (n - 1) = true then 10 else if v (n - 2) % 65536 ≠ 0 ∨ v (n - 1) % 65536 ≠ 0 then 11 else -1
def pidm (n : Nat) (v : Nat → Int) (t : Nat → Bool) (f : Int → Int → Int) : pR := if n < 2 then pe n v t 9 else if pwh2 n v t ≠ -1 then pe n v t (pwh2 n v t) else if v (n - 1) / 65536 = 0 then pe n v t 13 else pgive n v t 2 (f (v (n - 2) / 65536) (v (n - 1) / 65536) * 65536) false
/-- a shifted by b, as ints are -/
def zsh (a b : Int) : Int32 := if b < 0 then ((iZ a).toUInt32 >>> ((iZ (-b)).toUInt32 &&& Int32.toUInt32 31)).toInt32 else iZ a <<< (iZ b &&& 31)
def pshift (n : Nat) (v : Nat → Int) (t : Nat → Bool) : pR := if n < 2 then pe n v t 9 else if pwh2 n v t ≠ -1 then pe n v t (pwh2 n v t) else if v (n - 1) / 65536 < -31 ∨ 31 < v (n - 1) / 65536 then pe n v t 12 else pgive n v t 2 ((zsh (v (n - 2) / 65536) (v (n - 1) / 65536)).toInt * 65536) false
def pcmp (n : Nat) (v : Nat → Int) (t : Nat → Bool) (ord : Bool) (f : Int → Int → Bool) : pR := if n < 2 then pe n v t 9 else if t (n - 2) ≠ t (n - 1) ∨ (ord = true ∧ t (n - 2) = true) then pe n v t 10 else pgT n v t 2 (f (v (n - 2)) (v (n - 1)))
def plog (n : Nat) (v : Nat → Int) (t : Nat → Bool) (f : Int32 → Int32 → Int32) : pR := if n < 2 then pe n v t 9 else if t (n - 2) = true ∧ t (n - 1) = true then pgT n v t 2 (decide (f (iZ (v (n - 2))) (iZ (v (n - 1))) ≠ 0)) else if pwh2 n v t ≠ -1 then pe n v t (pwh2 n v t) else pgive n v t 2 ((f (iZ (v (n - 2) / 65536)) (iZ (v (n - 1) / 65536))).toInt * 65536) false
def pnot (n : Nat) (v : Nat → Int) (t : Nat → Bool) : pR := if n < 1 then pe n v t 9 else if t (n - 1) = true then pgT n v t 1 (decide (v (n - 1) = 0)) else if pwh1 n v t ≠ -1 then pe n v t (pwh1 n v t) else pgive n v t 1 ((-1 - v (n - 1) / 65536) * 65536) false
def ppop (n : Nat) (v : Nat → Int) (t : Nat → Bool) : pR := if n < 1 then pe n v t 9 else (-1, n - 1, v, t)
def pxc {α : Type} (n : Nat) (f : Nat → α) : Nat → α := fun j => if j = n - 2 then f (n - 1) else if j = n - 1 then f (n - 2) else f j
def pexch (n : Nat) (v : Nat → Int) (t : Nat → Bool) : pR := if n < 2 then pe n v t 9 else (-1, n, pxc n v, pxc n t)
def pdup (n : Nat) (v : Nat → Int) (t : Nat → Bool) : pR := if n < 1 then pe n v t 9 else pgive n v t 0 (v (n - 1)) (t (n - 1))
def pcp {α : Type} (r m : Nat) (f : Nat → α) : Nat → α := fun j => if r ≤ j ∧ j < r + m then f (j - m) else f j
def pcopy (n : Nat) (v : Nat → Int) (t : Nat → Bool) : pR := if n < 1 then pe n v t 9 else if pwh1 n v t ≠ -1 then pe n v t (pwh1 n v t) else if v (n - 1) / 65536 < 0 then pe n v t 12 else if (n : Int) - 1 < v (n - 1) / 65536 then pe n v t 9 else if 60 < (n : Int) - 1 + v (n - 1) / 65536 then pe n v t 8 else (-1, n - 1 + (v (n - 1) / 65536).toNat, pcp (n - 1) (v (n - 1) / 65536).toNat v, pcp (n - 1) (v (n - 1) / 65536).toNat t)
def pindex (n : Nat) (v : Nat → Int) (t : Nat → Bool) : pR := if n < 1 then pe n v t 9 else if pwh1 n v t ≠ -1 then pe n v t (pwh1 n v t) else if v (n - 1) / 65536 < 0 then pe n v t 12 else if (n : Int) - 1 ≤ v (n - 1) / 65536 then pe n v t 9 else pgive n v t 1 (v (n - 2 - (v (n - 1) / 65536).toNat)) (t (n - 2 - (v (n - 1) / 65536).toNat))
/-- the m below r, turned k times -/
def prt {α : Type} (r m k : Nat) (f : Nat → α) : Nat → α := fun j => if r - m ≤ j ∧ j < r then (if r - m + k ≤ j then f (j - k) else f (j + m - k)) else f j
def proll (n : Nat) (v : Nat → Int) (t : Nat → Bool) : pR := if n < 2 then pe n v t 9 else if pwh2 n v t ≠ -1 then pe n v t (pwh2 n v t) else if v (n - 2) / 65536 < 0 then pe n v t 12 else if (n : Int) - 2 < v (n - 2) / 65536 then pe n v t 9 else (-1, n - 2, prt (n - 2) (v (n - 2) / 65536).toNat (v (n - 1) / 65536 % (v (n - 2) / 65536)).toNat v, prt (n - 2) (v (n - 2) / 65536).toNat (v (n - 1) / 65536 % (v (n - 2) / 65536)).toNat t)
def pchoice (n : Nat) (v : Nat → Int) (t : Nat → Bool) : pR := if n < 1 then pe n v t 9 else if t (n - 1) = false then pe n v t 10 else (-1, n - 1, v, t)
/-- the root: the greatest number whose square, rounded down, is not above a -/
def zisr (a r : Int) : Prop := 0 ≤ r ∧ r * r / 65536 ≤ a ∧ a < (r + 1) * (r + 1) / 65536
theorem zisr_u {a r q : Int} (h : zisr a r) (g : zisr a q) : r = q := by
  have mono : ∀ {x y : Int}, 0 ≤ x → x ≤ y → x * x / 65536 ≤ y * y / 65536 := fun {x y} hx hxy => Int.ediv_le_ediv (by decide) (Int.mul_le_mul hxy hxy hx (by omega))
  rcases Int.lt_or_le r q with z | z
  · have := mono (x := r + 1) (y := q) (by have := h.1; omega) (by omega)
    have := h.2.2
    have := g.2.1
    omega
  · rcases Int.lt_or_le q r with w | w
    · have := mono (x := q + 1) (y := r) (by have := g.1; omega) (by omega)
      have := g.2.2
      have := h.2.1
      omega
    · omega
noncomputable def zroot (a : Int) : Int := @Classical.epsilon Int ⟨0⟩ (zisr a)
theorem zroot_eq {a r : Int} (h : zisr a r) : zroot a = r := zisr_u (Classical.epsilon_spec_aux ⟨0⟩ (zisr a) ⟨r, h⟩) h
def zfl (a : Int) : Int := a.fdiv 65536 * 65536
def ztr (a : Int) : Int := a.tdiv 65536 * 65536
/-- what word w does; num is its number, if it is one -/
noncomputable def pS (w : Nat) (num : Int) (n : Nat) (v : Nat → Int) (t : Nat → Bool) : pR := match w with
  | 0 => (-1, n, v, t)
  | 1 => (-1, n, v, t)
  | 2 => pgive n v t 0 num false
  | 3 => pgT n v t 0 true
  | 4 => pgT n v t 0 false
  | 5 => p1 n v t (fun _ => false) (fun a => if a < 0 then -a else a)
  | 6 => p1 n v t (fun _ => false) (fun a => -a)
  | 7 => p1 n v t (fun _ => false) (fun a => -zfl (-a))
  | 8 => p1 n v t (fun _ => false) zfl
  | 9 => p1 n v t (fun _ => false) (fun a => zfl (a + 32768))
  | 10 => p1 n v t (fun _ => false) ztr
  | 11 => p1 n v t (fun _ => false) ztr
  | 12 => p1 n v t (fun _ => false) (fun a => a)
  | 13 => p1 n v t (fun a => decide (a < 0)) zroot
  | 14 => p2 n v t (fun _ => false) (fun a b => a + b)
  | 15 => p2 n v t (fun _ => false) (fun a b => a - b)
  | 16 => p2 n v t (fun _ => false) ztimes
  | 17 => p2 n v t (fun b => decide (b = 0)) zover
  | 18 => pidm n v t Int.tdiv
  | 19 => pidm n v t Int.tmod
  | 20 => pshift n v t
  | 21 => pcmp n v t false (fun a b => decide (a = b))
  | 22 => pcmp n v t false (fun a b => decide (a ≠ b))
  | 23 => pcmp n v t true (fun a b => decide (b < a))
  | 24 => pcmp n v t true (fun a b => decide (b ≤ a))
  | 25 => pcmp n v t true (fun a b => decide (a < b))
  | 26 => pcmp n v t true (fun a b => decide (a ≤ b))
  | 27 => plog n v t (fun a b => a &&& b)
  | 28 => plog n v t (fun a b => a ||| b)
  | 29 => plog n v t (fun a b => a ^^^ b)
  | 30 => pnot n v t
  | 31 => ppop n v t
  | 32 => pexch n v t
  | 33 => pdup n v t
  | 34 => pcopy n v t
  | 35 => pindex n v t
  | 36 => proll n v t
  | _ => pchoice n v t
theorem pS_0 (num : Int) (n : Nat) (v : Nat → Int) (t : Nat → Bool) : pS 0 num n v t = (-1, n, v, t) := rfl
theorem pS_1 (num : Int) (n : Nat) (v : Nat → Int) (t : Nat → Bool) : pS 1 num n v t = (-1, n, v, t) := rfl
theorem pS_2 (num : Int) (n : Nat) (v : Nat → Int) (t : Nat → Bool) : pS 2 num n v t = pgive n v t 0 num false := rfl
theorem pS_3 (num : Int) (n : Nat) (v : Nat → Int) (t : Nat → Bool) : pS 3 num n v t = pgT n v t 0 true := rfl
theorem pS_4 (num : Int) (n : Nat) (v : Nat → Int) (t : Nat → Bool) : pS 4 num n v t = pgT n v t 0 false := rfl
theorem pS_5 (num : Int) (n : Nat) (v : Nat → Int) (t : Nat → Bool) : pS 5 num n v t = p1 n v t (fun _ => false) (fun a => if a < 0 then -a else a) := rfl
theorem pS_6 (num : Int) (n : Nat) (v : Nat → Int) (t : Nat → Bool) : pS 6 num n v t = p1 n v t (fun _ => false) (fun a => -a) := rfl
theorem pS_7 (num : Int) (n : Nat) (v : Nat → Int) (t : Nat → Bool) : pS 7 num n v t = p1 n v t (fun _ => false) (fun a => -zfl (-a)) := rfl
theorem pS_8 (num : Int) (n : Nat) (v : Nat → Int) (t : Nat → Bool) : pS 8 num n v t = p1 n v t (fun _ => false) zfl := rfl
theorem pS_9 (num : Int) (n : Nat) (v : Nat → Int) (t : Nat → Bool) : pS 9 num n v t = p1 n v t (fun _ => false) (fun a => zfl (a + 32768)) := rfl
theorem pS_10 (num : Int) (n : Nat) (v : Nat → Int) (t : Nat → Bool) : pS 10 num n v t = p1 n v t (fun _ => false) ztr := rfl
theorem pS_11 (num : Int) (n : Nat) (v : Nat → Int) (t : Nat → Bool) : pS 11 num n v t = p1 n v t (fun _ => false) ztr := rfl
theorem pS_12 (num : Int) (n : Nat) (v : Nat → Int) (t : Nat → Bool) : pS 12 num n v t = p1 n v t (fun _ => false) (fun a => a) := rfl
theorem pS_13 (num : Int) (n : Nat) (v : Nat → Int) (t : Nat → Bool) : pS 13 num n v t = p1 n v t (fun a => decide (a < 0)) zroot := rfl
theorem pS_14 (num : Int) (n : Nat) (v : Nat → Int) (t : Nat → Bool) : pS 14 num n v t = p2 n v t (fun _ => false) (fun a b => a + b) := rfl
theorem pS_15 (num : Int) (n : Nat) (v : Nat → Int) (t : Nat → Bool) : pS 15 num n v t = p2 n v t (fun _ => false) (fun a b => a - b) := rfl
theorem pS_16 (num : Int) (n : Nat) (v : Nat → Int) (t : Nat → Bool) : pS 16 num n v t = p2 n v t (fun _ => false) ztimes := rfl
theorem pS_17 (num : Int) (n : Nat) (v : Nat → Int) (t : Nat → Bool) : pS 17 num n v t = p2 n v t (fun b => decide (b = 0)) zover := rfl
theorem pS_18 (num : Int) (n : Nat) (v : Nat → Int) (t : Nat → Bool) : pS 18 num n v t = pidm n v t Int.tdiv := rfl
theorem pS_19 (num : Int) (n : Nat) (v : Nat → Int) (t : Nat → Bool) : pS 19 num n v t = pidm n v t Int.tmod := rfl
theorem pS_20 (num : Int) (n : Nat) (v : Nat → Int) (t : Nat → Bool) : pS 20 num n v t = pshift n v t := rfl
theorem pS_21 (num : Int) (n : Nat) (v : Nat → Int) (t : Nat → Bool) : pS 21 num n v t = pcmp n v t false (fun a b => decide (a = b)) := rfl
theorem pS_22 (num : Int) (n : Nat) (v : Nat → Int) (t : Nat → Bool) : pS 22 num n v t = pcmp n v t false (fun a b => decide (a ≠ b)) := rfl
theorem pS_23 (num : Int) (n : Nat) (v : Nat → Int) (t : Nat → Bool) : pS 23 num n v t = pcmp n v t true (fun a b => decide (b < a)) := rfl
theorem pS_24 (num : Int) (n : Nat) (v : Nat → Int) (t : Nat → Bool) : pS 24 num n v t = pcmp n v t true (fun a b => decide (b ≤ a)) := rfl
theorem pS_25 (num : Int) (n : Nat) (v : Nat → Int) (t : Nat → Bool) : pS 25 num n v t = pcmp n v t true (fun a b => decide (a < b)) := rfl
theorem pS_26 (num : Int) (n : Nat) (v : Nat → Int) (t : Nat → Bool) : pS 26 num n v t = pcmp n v t true (fun a b => decide (a ≤ b)) := rfl
theorem pS_27 (num : Int) (n : Nat) (v : Nat → Int) (t : Nat → Bool) : pS 27 num n v t = plog n v t (fun a b => a &&& b) := rfl
theorem pS_28 (num : Int) (n : Nat) (v : Nat → Int) (t : Nat → Bool) : pS 28 num n v t = plog n v t (fun a b => a ||| b) := rfl
theorem pS_29 (num : Int) (n : Nat) (v : Nat → Int) (t : Nat → Bool) : pS 29 num n v t = plog n v t (fun a b => a ^^^ b) := rfl
theorem pS_30 (num : Int) (n : Nat) (v : Nat → Int) (t : Nat → Bool) : pS 30 num n v t = pnot n v t := rfl
theorem pS_31 (num : Int) (n : Nat) (v : Nat → Int) (t : Nat → Bool) : pS 31 num n v t = ppop n v t := rfl
theorem pS_32 (num : Int) (n : Nat) (v : Nat → Int) (t : Nat → Bool) : pS 32 num n v t = pexch n v t := rfl
theorem pS_33 (num : Int) (n : Nat) (v : Nat → Int) (t : Nat → Bool) : pS 33 num n v t = pdup n v t := rfl
theorem pS_34 (num : Int) (n : Nat) (v : Nat → Int) (t : Nat → Bool) : pS 34 num n v t = pcopy n v t := rfl
theorem pS_35 (num : Int) (n : Nat) (v : Nat → Int) (t : Nat → Bool) : pS 35 num n v t = pindex n v t := rfl
theorem pS_36 (num : Int) (n : Nat) (v : Nat → Int) (t : Nat → Bool) : pS 36 num n v t = proll n v t := rfl
theorem pS_37 (num : Int) (n : Nat) (v : Nat → Int) (t : Nat → Bool) : pS 37 num n v t = pchoice n v t := rfl
theorem pS_38 (num : Int) (n : Nat) (v : Nat → Int) (t : Nat → Bool) : pS 38 num n v t = pchoice n v t := rfl
/-- the stack is as it may be -/
def WS (n : Nat) (v : Nat → Int) (t : Nat → Bool) : Prop := n ≤ 60 ∧ ∀ j, j < n → zN (v j) ∧ (t j = true → v j = 0 ∨ v j = 1)
/-- the class's machine holds it -/
def KS (S : x_S) (n : Nat) (v : Nat → Int) (t : Nat → Bool) : Prop := S.1 9 = nI n ∧ ∀ j, j < n → S.2.1 12 j = iZ (v j) ∧ S.2.1 13 j = bI (t j)
/-- only the class's machine has changed -/
def KF (S S' : x_S) : Prop := (∀ k, k ≠ 9 → k ≠ 10 → S'.1 k = S.1 k) ∧ (∀ k, k ≠ 12 → k ≠ 13 → S'.2.1 k = S.2.1 k) ∧ S'.2.2 = S.2.2
theorem KF.refl (S : x_S) : KF S S := ⟨fun _ _ _ => rfl, fun _ _ _ => rfl, rfl⟩
theorem KF.trans {S S1 S2 : x_S} (h : KF S S1) (g : KF S1 S2) : KF S S2 := ⟨fun k a b => (g.1 k a b).trans (h.1 k a b), fun k a b => (g.2.1 k a b).trans (h.2.1 k a b), g.2.2.trans h.2.2⟩
theorem KF.i (S : x_S) (x : Int32) : KF S (x_i S 9 x) := ⟨fun k a _ => upd_n a, fun _ _ _ => rfl, rfl⟩
theorem KF.c (S : x_S) (x : Int32) : KF S (x_i S 10 x) := ⟨fun k _ a => upd_n a, fun _ _ _ => rfl, rfl⟩
theorem KF.v (S : x_S) (j : Nat) (x : Int32) : KF S (x_a S 12 j x) := ⟨fun _ _ _ => rfl, fun k a _ => va_up_ne _ _ a, rfl⟩
theorem KF.t (S : x_S) (j : Nat) (x : Int32) : KF S (x_a S 13 j x) := ⟨fun _ _ _ => rfl, fun k _ a => va_up_ne _ _ a, rfl⟩
theorem KF.V (S : x_S) (f : Nat → Int32) : KF S (x_A S 12 f) := ⟨fun _ _ _ => rfl, fun k a _ => va_up_ne _ _ a, rfl⟩
theorem KF.T (S : x_S) (f : Nat → Int32) : KF S (x_A S 13 f) := ⟨fun _ _ _ => rfl, fun k _ a => va_up_ne _ _ a, rfl⟩
def kp (S : x_S) (tl : List va_E) (r : pR) (v : Option Value) (h' : List va_E) : Prop := v = some (.int (iZ r.1)) ∧ ∃ S', h' = x_hC S' tl ∧ KF S S' ∧ (r.1 = -1 → KS S' r.2.1 r.2.2.1 r.2.2.2)
theorem kp_e {S : x_S} {tl : List va_E} {r : pR} {c : Int} {x : Int32} (hr : r.1 = c) (hc : c ≠ -1) (hx : x = iZ c) : kp S tl r (some (.int x)) (x_hC S tl) := ⟨by rw [hr, hx], S, rfl, KF.refl S, fun z => absurd (hr.symm.trans z) hc⟩
theorem kp_eq {S : x_S} {tl : List va_E} {r q : pR} {v : Option Value} {h' : List va_E} (e : r = q) (h : kp S tl q v h') : kp S tl r v h' := e ▸ h
theorem KS.i {S : x_S} {n k : Nat} {v : Nat → Int} {t : Nat → Bool} (h : KS S n v t) (hk : k ≤ n) : S.1 9 - nI k = nI (n - k) := by rw [h.1]; exact pk_sub hk
theorem x_ig (S : x_S) (k : Nat) (x : Int32) : (x_i S k x).1 k = x := upd_s _ _ _
theorem x_in (S : x_S) {k j : Nat} (x : Int32) (h : j ≠ k) : (x_i S k x).1 j = S.1 j := upd_n h
theorem x_ag (S : x_S) (k j : Nat) (x : Int32) : (x_a S k j x).2.1 k = upd (S.2.1 k) j x := va_up_self _ _ _
theorem x_an (S : x_S) {k k' : Nat} (j : Nat) (x : Int32) (h : k' ≠ k) : (x_a S k j x).2.1 k' = S.2.1 k' := va_up_ne _ _ h
theorem y_ig (S : x_M) (k : Nat) (x : Int32) : (y_i S k x).1 k = x := upd_s _ _ _
theorem y_in (S : x_M) {k j : Nat} (x : Int32) (h : j ≠ k) : (y_i S k x).1 j = S.1 j := upd_n h
theorem y_ag (S : x_M) (k j : Nat) (x : Int32) : (y_a S k j x).2.1 k = upd (S.2.1 k) j x := va_up_self _ _ _
theorem y_an (S : x_M) {k k' : Nat} (j : Nat) (x : Int32) (h : k' ≠ k) : (y_a S k j x).2.1 k' = S.2.1 k' := va_up_ne _ _ h
theorem y_lg (S : x_M) (k j : Nat) (x : Int64) : (y_l S k j x).2.2 k = vp_updL (S.2.2 k) j x := va_up_self _ _ _
theorem y_ln (S : x_M) {k k' : Nat} (j : Nat) (x : Int64) (h : k' ≠ k) : (y_l S k j x).2.2 k' = S.2.2 k' := va_up_ne _ _ h
theorem bI_vn (b : Bool) : vp_nar .boolean (bI b) = bI b := by cases b <;> decide
theorem KS.give {S : x_S} {n k : Nat} {v : Nat → Int} {t : Nat → Bool} {x : Int} {b : Bool} (h : KS S n v t) (hk : k ≤ n) : KS (x_i (x_a (x_a S 12 (n - k) (iZ (zk x))) 13 (n - k) (vp_nar .boolean (bI b))) 9 (nI (n - k) + Int32.ofInt 1)) (n - k + 1) (va_up v (n - k) (zk x)) (va_up t (n - k) b) := by
  refine ⟨?_, fun j hj => ?_⟩
  · rw [x_ig, nI_o1]
  · have e12 : (x_i (x_a (x_a S 12 (n - k) (iZ (zk x))) 13 (n - k) (vp_nar .boolean (bI b))) 9 (nI (n - k) + Int32.ofInt 1)).2.1 12 = upd (S.2.1 12) (n - k) (iZ (zk x)) := (x_an (x_a S 12 (n - k) (iZ (zk x))) (n - k) (vp_nar .boolean (bI b)) (by decide)).trans (x_ag S 12 (n - k) (iZ (zk x)))
    have e13 : (x_i (x_a (x_a S 12 (n - k) (iZ (zk x))) 13 (n - k) (vp_nar .boolean (bI b))) 9 (nI (n - k) + Int32.ofInt 1)).2.1 13 = upd (S.2.1 13) (n - k) (vp_nar .boolean (bI b)) := (x_ag (x_a S 12 (n - k) (iZ (zk x))) 13 (n - k) (vp_nar .boolean (bI b))).trans (by rw [x_an S _ _ (by decide)])
    rw [e12, e13]
    by_cases e : j = n - k
    · subst e
      rw [upd_s, upd_s, va_up_self, va_up_self]
      exact ⟨rfl, bI_vn b⟩
    · rw [upd_n e, upd_n e, va_up_ne _ _ e, va_up_ne _ _ e]
      exact h.2 j (by omega)
theorem iZ_div {a : Int} (ha : zN a) : iZ a / (65536 : Int32) = iZ (a.tdiv 65536) := by
  apply Int32.toInt_inj.mp
  have h1 := ha.1
  have h2 := ha.2
  have hq : zI (a.tdiv 65536) := by
    have := Int.natAbs_tdiv_le_natAbs a 65536
    exact ⟨by omega, by omega⟩
  rw [Int32.toInt_div, iZ_t (zN_I ha), iZ_t hq, show (65536 : Int32).toInt = 65536 from rfl, Int.bmod_def]
  have := hq.1
  have := hq.2
  omega
theorem tdiv_w {a : Int} (h : a % 65536 = 0) : a.tdiv 65536 = a / 65536 := by
  rw [Int.tdiv_eq_ediv_of_dvd (Int.dvd_of_emod_eq_zero h)]
theorem irem_0 {a : Int} (ha : zN a) : iZ a - iZ a / (65536 : Int32) * (65536 : Int32) = 0 ↔ a % 65536 = 0 := by
  rw [iZ_div ha, show (65536 : Int32) = iZ 65536 from rfl, iZ_mul, iZ_sub, show (0 : Int32) = iZ 0 from rfl]
  have h1 := ha.1
  have h2 := ha.2
  have h3 : a - a.tdiv 65536 * 65536 = a.tmod 65536 := by
    have := Int.mul_tdiv_add_tmod a 65536
    omega
  have h4 : (a.tmod 65536).natAbs < 65536 := by
    rw [Int.natAbs_tmod]
    exact Nat.mod_lt _ (by decide)
  rw [h3, iZ_eq ⟨by omega, by omega⟩ ⟨by decide, by decide⟩]
  constructor
  · intro z; exact Int.emod_eq_zero_of_dvd (Int.dvd_of_tmod_eq_zero z)
  · intro z; exact Int.tmod_eq_zero_of_dvd (Int.dvd_of_emod_eq_zero z)
theorem zN_q {a : Int} (ha : zN a) : -16384 ≤ a / 65536 ∧ a / 65536 ≤ 16384 := by
  have h1 := ha.1
  have h2 := ha.2
  omega
