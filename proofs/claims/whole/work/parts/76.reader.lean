/-! THE READER's state, and what the class's reader holds -/
/-- a word's cell: its text, what it takes, its group, its number -/
def wgp (w : Nat) : Nat := if w < 2 then 0 else if w < 5 then 1 else if w < 14 then 2 else if w < 18 then 3 else if w < 21 then 4 else if w < 27 then 5 else if w < 31 then 6 else if w < 34 then 7 else if w < 37 then 8 else 9
theorem v_wg : ∀ w, w < 39 → ∃ k, v_cst[w]? = some (.inr (13, [.ref (39 + w), .int k, .int (nI (wgp w)), .int (nI w)])) := by
  intro w hw
  match w, hw with
  | 0, _ => exact ⟨_, rfl⟩
  | 1, _ => exact ⟨_, rfl⟩
  | 2, _ => exact ⟨_, rfl⟩
  | 3, _ => exact ⟨_, rfl⟩
  | 4, _ => exact ⟨_, rfl⟩
  | 5, _ => exact ⟨_, rfl⟩
  | 6, _ => exact ⟨_, rfl⟩
  | 7, _ => exact ⟨_, rfl⟩
  | 8, _ => exact ⟨_, rfl⟩
  | 9, _ => exact ⟨_, rfl⟩
  | 10, _ => exact ⟨_, rfl⟩
  | 11, _ => exact ⟨_, rfl⟩
  | 12, _ => exact ⟨_, rfl⟩
  | 13, _ => exact ⟨_, rfl⟩
  | 14, _ => exact ⟨_, rfl⟩
  | 15, _ => exact ⟨_, rfl⟩
  | 16, _ => exact ⟨_, rfl⟩
  | 17, _ => exact ⟨_, rfl⟩
  | 18, _ => exact ⟨_, rfl⟩
  | 19, _ => exact ⟨_, rfl⟩
  | 20, _ => exact ⟨_, rfl⟩
  | 21, _ => exact ⟨_, rfl⟩
  | 22, _ => exact ⟨_, rfl⟩
  | 23, _ => exact ⟨_, rfl⟩
  | 24, _ => exact ⟨_, rfl⟩
  | 25, _ => exact ⟨_, rfl⟩
  | 26, _ => exact ⟨_, rfl⟩
  | 27, _ => exact ⟨_, rfl⟩
  | 28, _ => exact ⟨_, rfl⟩
  | 29, _ => exact ⟨_, rfl⟩
  | 30, _ => exact ⟨_, rfl⟩
  | 31, _ => exact ⟨_, rfl⟩
  | 32, _ => exact ⟨_, rfl⟩
  | 33, _ => exact ⟨_, rfl⟩
  | 34, _ => exact ⟨_, rfl⟩
  | 35, _ => exact ⟨_, rfl⟩
  | 36, _ => exact ⟨_, rfl⟩
  | 37, _ => exact ⟨_, rfl⟩
  | 38, _ => exact ⟨_, rfl⟩
  | w + 39, hw => exact absurd hw (by omega)
theorem x_wg (S : x_S) (tl : List va_E) : ∀ w, w < 39 → ∃ k, (x_hC S tl)[w]? = some (.inr (13, [.ref (39 + w), .int k, .int (nI (wgp w)), .int (nI w)])) := fun w hw => by rw [x_at S tl (by omega)]; exact v_wg w hw
theorem wgp_9 {w : Nat} (hw : w < 39) : wgp w = 9 ↔ 37 ≤ w := by
  have : ∀ w, w < 39 → (wgp w = 9 ↔ 37 ≤ w) := by decide
  exact this w hw
theorem wgp_l {w : Nat} (hw : w < 39) : wgp w ≤ 9 := by
  have : ∀ w, w < 39 → wgp w ≤ 9 := by decide
  exact this w hw
def RSr (S : x_S) (P : pP) : Prop := (S.1 5 = nI (qn P) ∧ S.1 6 = nI (qd P)) ∧ ((∀ j, S.2.1 9 j = nI (qw P j)) ∧ (∀ j, S.2.1 8 j = nI (qo P j)) ∧ (∀ j, S.2.1 10 j = nI (qf P j)) ∧ (∀ j, S.2.1 11 j = nI (qs P j))) ∧ (∀ j, S.2.1 5 j = iZ (qm P j)) ∧ (∀ j, S.2.1 6 j = nI (qt P j)) ∧ (∀ j, S.2.1 7 j = nI (qe P j)) ∧ ∀ j, j < qn P → S.2.2.1 1 j = some (qc P j)
/-- only the reader has changed -/
def RFr (S S' : x_S) : Prop := (∀ k, k ≠ 5 → k ≠ 6 → k ≠ 8 → S'.1 k = S.1 k) ∧ (∀ k, k < 5 ∨ 11 < k → S'.2.1 k = S.2.1 k) ∧ (∀ k, k ≠ 1 → S'.2.2.1 k = S.2.2.1 k) ∧ S'.2.2.2 = S.2.2.2
theorem RFr.refl (S : x_S) : RFr S S := ⟨fun _ _ _ _ => rfl, fun _ _ => rfl, fun _ _ => rfl, rfl⟩
theorem RFr.trans {S S1 S2 : x_S} (h : RFr S S1) (g : RFr S1 S2) : RFr S S2 := ⟨fun k a b c => (g.1 k a b c).trans (h.1 k a b c), fun k a => (g.2.1 k a).trans (h.2.1 k a), fun k a => (g.2.2.1 k a).trans (h.2.2.1 k a), g.2.2.2.trans h.2.2.2⟩
theorem RFr.i {S S1 : x_S} (h : RFr S S1) {k : Nat} (x : Int32) (hk : k = 5 ∨ k = 6 ∨ k = 8) : RFr S (x_i S1 k x) := h.trans ⟨fun j a b c => upd_n (by omega), fun _ _ => rfl, fun _ _ => rfl, rfl⟩
theorem RFr.a {S S1 : x_S} (h : RFr S S1) {k : Nat} (j : Nat) (x : Int32) (hk : 5 ≤ k ∧ k ≤ 11) : RFr S (x_a S1 k j x) := h.trans ⟨fun _ _ _ _ => rfl, fun i a => va_up_ne _ _ (by omega), fun _ _ => rfl, rfl⟩
theorem RFr.r {S S1 : x_S} (h : RFr S S1) (j : Nat) (x : Option Nat) : RFr S (x_r S1 1 j x) := h.trans ⟨fun _ _ _ _ => rfl, fun _ _ => rfl, fun i a => va_up_ne _ _ a, rfl⟩
theorem up_nI {f : Nat → Int32} {g : Nat → Nat} (h : ∀ j, f j = nI (g j)) (k x : Nat) : ∀ j, upd f k (nI x) j = nI (va_up g k x j) := by
  intro j
  by_cases z : j = k
  · rw [z, upd_s, va_up_self]
  · rw [upd_n z, va_up_ne _ _ z, h j]
theorem up_iZ {f : Nat → Int32} {g : Nat → Int} (h : ∀ j, f j = iZ (g j)) (k : Nat) (x : Int) : ∀ j, upd f k (iZ x) j = iZ (va_up g k x j) := by
  intro j
  by_cases z : j = k
  · rw [z, upd_s, va_up_self]
  · rw [upd_n z, va_up_ne _ _ z, h j]
def ud (P : pP) (n : Nat) : pP := (qn P, n, P.2.2)
def uw (P : pP) (f : Nat → Nat) : pP := (qn P, qd P, f, P.2.2.2)
def uo (P : pP) (f : Nat → Nat) : pP := (qn P, qd P, qw P, f, P.2.2.2.2)
def uf (P : pP) (f : Nat → Nat) : pP := (qn P, qd P, qw P, qo P, f, P.2.2.2.2.2)
def us (P : pP) (f : Nat → Nat) : pP := (qn P, qd P, qw P, qo P, qf P, f, P.2.2.2.2.2.2)
def ut (P : pP) (f : Nat → Nat) : pP := (qn P, qd P, qw P, qo P, qf P, qs P, qc P, qm P, f, qe P)
def ue (P : pP) (f : Nat → Nat) : pP := (qn P, qd P, qw P, qo P, qf P, qs P, qc P, qm P, qt P, f)
theorem RSr.d {S : x_S} {P : pP} (h : RSr S P) {n : Nat} {x : Int32} (hx : x = nI n) : RSr (x_i S 6 x) (ud P n) := ⟨⟨(x_in S x (by decide)).trans h.1.1, (x_ig S 6 x).trans hx⟩, h.2⟩
theorem RSr.num {S : x_S} {P : pP} (h : RSr S P) (x : Int32) : RSr (x_i S 8 x) P := ⟨⟨(x_in S x (by decide)).trans h.1.1, (x_in S x (by decide)).trans h.1.2⟩, h.2⟩
theorem RSr.w {S : x_S} {P : pP} (h : RSr S P) {j n : Nat} {x : Int32} (hx : x = nI n) : RSr (x_a S 9 j x) (uw P (va_up (qw P) j n)) := by
  subst hx
  refine ⟨h.1, ⟨?_, ?_, ?_, ?_⟩, ?_, ?_, ?_, h.2.2.2.2.2⟩
  · rw [x_ag]; exact up_nI h.2.1.1 j n
  · rw [x_an S j (nI n) (by decide)]; exact h.2.1.2.1
  · rw [x_an S j (nI n) (by decide)]; exact h.2.1.2.2.1
  · rw [x_an S j (nI n) (by decide)]; exact h.2.1.2.2.2
  · rw [x_an S j (nI n) (by decide)]; exact h.2.2.1
  · rw [x_an S j (nI n) (by decide)]; exact h.2.2.2.1
  · rw [x_an S j (nI n) (by decide)]; exact h.2.2.2.2.1
theorem RSr.o {S : x_S} {P : pP} (h : RSr S P) {j n : Nat} {x : Int32} (hx : x = nI n) : RSr (x_a S 8 j x) (uo P (va_up (qo P) j n)) := by
  subst hx
  refine ⟨h.1, ⟨?_, ?_, ?_, ?_⟩, ?_, ?_, ?_, h.2.2.2.2.2⟩
  · rw [x_an S j (nI n) (by decide)]; exact h.2.1.1
  · rw [x_ag]; exact up_nI h.2.1.2.1 j n
  · rw [x_an S j (nI n) (by decide)]; exact h.2.1.2.2.1
  · rw [x_an S j (nI n) (by decide)]; exact h.2.1.2.2.2
  · rw [x_an S j (nI n) (by decide)]; exact h.2.2.1
  · rw [x_an S j (nI n) (by decide)]; exact h.2.2.2.1
  · rw [x_an S j (nI n) (by decide)]; exact h.2.2.2.2.1
theorem RSr.f {S : x_S} {P : pP} (h : RSr S P) {j n : Nat} {x : Int32} (hx : x = nI n) : RSr (x_a S 10 j x) (uf P (va_up (qf P) j n)) := by
  subst hx
  refine ⟨h.1, ⟨?_, ?_, ?_, ?_⟩, ?_, ?_, ?_, h.2.2.2.2.2⟩
  · rw [x_an S j (nI n) (by decide)]; exact h.2.1.1
  · rw [x_an S j (nI n) (by decide)]; exact h.2.1.2.1
  · rw [x_ag]; exact up_nI h.2.1.2.2.1 j n
  · rw [x_an S j (nI n) (by decide)]; exact h.2.1.2.2.2
  · rw [x_an S j (nI n) (by decide)]; exact h.2.2.1
  · rw [x_an S j (nI n) (by decide)]; exact h.2.2.2.1
  · rw [x_an S j (nI n) (by decide)]; exact h.2.2.2.2.1
theorem RSr.s {S : x_S} {P : pP} (h : RSr S P) {j n : Nat} {x : Int32} (hx : x = nI n) : RSr (x_a S 11 j x) (us P (va_up (qs P) j n)) := by
  subst hx
  refine ⟨h.1, ⟨?_, ?_, ?_, ?_⟩, ?_, ?_, ?_, h.2.2.2.2.2⟩
  · rw [x_an S j (nI n) (by decide)]; exact h.2.1.1
  · rw [x_an S j (nI n) (by decide)]; exact h.2.1.2.1
  · rw [x_an S j (nI n) (by decide)]; exact h.2.1.2.2.1
  · rw [x_ag]; exact up_nI h.2.1.2.2.2 j n
  · rw [x_an S j (nI n) (by decide)]; exact h.2.2.1
  · rw [x_an S j (nI n) (by decide)]; exact h.2.2.2.1
  · rw [x_an S j (nI n) (by decide)]; exact h.2.2.2.2.1
theorem RSr.t {S : x_S} {P : pP} (h : RSr S P) {j n : Nat} {x : Int32} (hx : x = nI n) : RSr (x_a S 6 j x) (ut P (va_up (qt P) j n)) := by
  subst hx
  refine ⟨h.1, ⟨?_, ?_, ?_, ?_⟩, ?_, ?_, ?_, h.2.2.2.2.2⟩
  · rw [x_an S j (nI n) (by decide)]; exact h.2.1.1
  · rw [x_an S j (nI n) (by decide)]; exact h.2.1.2.1
  · rw [x_an S j (nI n) (by decide)]; exact h.2.1.2.2.1
  · rw [x_an S j (nI n) (by decide)]; exact h.2.1.2.2.2
  · rw [x_an S j (nI n) (by decide)]; exact h.2.2.1
  · rw [x_ag]; exact up_nI h.2.2.2.1 j n
  · rw [x_an S j (nI n) (by decide)]; exact h.2.2.2.2.1
theorem RSr.e {S : x_S} {P : pP} (h : RSr S P) {j n : Nat} {x : Int32} (hx : x = nI n) : RSr (x_a S 7 j x) (ue P (va_up (qe P) j n)) := by
  subst hx
  refine ⟨h.1, ⟨?_, ?_, ?_, ?_⟩, ?_, ?_, ?_, h.2.2.2.2.2⟩
  · rw [x_an S j (nI n) (by decide)]; exact h.2.1.1
  · rw [x_an S j (nI n) (by decide)]; exact h.2.1.2.1
  · rw [x_an S j (nI n) (by decide)]; exact h.2.1.2.2.1
  · rw [x_an S j (nI n) (by decide)]; exact h.2.1.2.2.2
  · rw [x_an S j (nI n) (by decide)]; exact h.2.2.1
  · rw [x_an S j (nI n) (by decide)]; exact h.2.2.2.1
  · rw [x_ag]; exact up_nI h.2.2.2.2.1 j n
/-- a word is put: count, words, numbers, onward, otherwise -/
theorem RSr.pw {S : x_S} {P : pP} (h : RSr S P) {w : Nat} {z : Int} {c y t u : Int32} (hc : c = nI (qn P + 1)) (hy : y = iZ z) (ht : t = nI (qn P + 1)) (hu : u = nI (qn P + 1)) : RSr (x_a (x_a (x_a (x_r (x_i S 5 c) 1 (qn P) (some w)) 5 (qn P) y) 6 (qn P) t) 7 (qn P) u) (pw P w z) := by
  subst hc hy ht hu
  refine ⟨⟨x_ig S 5 _, (x_in S (k := 5) (j := 6) (nI (qn P + 1)) (by decide)).trans h.1.2⟩, ⟨h.2.1.1, h.2.1.2.1, h.2.1.2.2.1, h.2.1.2.2.2⟩, up_iZ h.2.2.1 (qn P) z, up_nI h.2.2.2.1 (qn P) (qn P + 1), up_nI h.2.2.2.2.1 (qn P) (qn P + 1), fun j hj => ?_⟩
  have hj' : j < qn P + 1 := hj
  show va_up (S.2.2.1 1) (qn P) (some w) j = some (va_up (qc P) (qn P) w j)
  by_cases e : j = qn P
  · rw [e, va_up_self, va_up_self]
  · rw [va_up_ne _ _ e, va_up_ne _ _ e]; exact h.2.2.2.2.2 j (by omega)
theorem PI_d {P : pP} (h : PI P) : qd P ≤ 12 := by have a := h.2.2.1; have b := h.2.2.2.1 (qn P) (Nat.le_refl _); omega
/-- where a word may stand, the reader's arrays are long enough -/
theorem PI_pre {P : pP} {w : Nat} (h : PI P) (hm : ¬pmis P w) : (w = 1 → 1 ≤ qd P ∧ qd P ≤ 12) ∧ (37 ≤ w → w ≤ 38 → 1 ≤ qd P ∧ qd P ≤ 12 ∧ 1 ≤ qn P ∧ qf P (qd P) < 400 ∧ (qw P (qd P) = 2 → 1 ≤ qs P (qd P) ∧ qs P (qd P) ≤ 400) ∧ qw P (qd P) ≤ 2) := by
  have h1 := h.1
  have hd := PI_d h
  rcases h.2.2.2.2 with ⟨a, _⟩ | ⟨a1, a2, a3, a4, a5, a6⟩
  · refine ⟨fun z => ?_, fun z _ => ?_⟩
    · exfalso; apply hm; unfold pmis; rw [if_pos a]; omega
    · exfalso; apply hm; unfold pmis; rw [if_pos a]; omega
  · refine ⟨fun _ => ⟨a1, hd⟩, fun z z2 => ?_⟩
    unfold pmis at hm
    rw [if_neg (by omega)] at hm
    rcases a6.2.2 with ⟨y, _⟩ | ⟨y, c1, c2⟩ | ⟨y, c1, c2, c3⟩
    · exfalso; apply hm
      by_cases u : w = 37
      · rw [if_pos u]; omega
      · rw [if_neg u, if_pos (by omega)]; omega
    · have := c2.1; exact ⟨a1, hd, by omega, by omega, by omega, by omega⟩
    · have := c2.1; have := c3.1; exact ⟨a1, hd, by omega, by omega, by omega, by omega⟩
theorem wr_i {r : Option Nat} {w k : Nat} (hr : r = if w = 39 then none else some w) (hk : k < 39) : r = some k ↔ w = k := by
  subst hr
  by_cases z : w = 39
  · rw [if_pos z]; exact ⟨fun h => (by cases h), fun h => by omega⟩
  · rw [if_neg z]; exact ⟨fun h => Option.some.inj h, fun h => by rw [h]⟩
theorem wr_ok {r : Option Nat} {w : Nat} (hr : r = if w = 39 then none else some w) (hw : w ≤ 39) : ax_ok r := by
  subst hr
  by_cases z : w = 39
  · rw [if_pos z]; trivial
  · rw [if_neg z]; exact Or.inl (by omega)
theorem pm_00 {P : pP} {w : Nat} (h : qd P = 0) : pmis P w ↔ ¬(w = 0 ∧ qn P = 0) := by unfold pmis; rw [if_pos h]
theorem pm_37 {P : pP} (h : qd P ≠ 0) : pmis P 37 ↔ qw P (qd P) ≠ 1 := by unfold pmis; rw [if_neg h, if_pos rfl]
theorem pm_38 {P : pP} (h : qd P ≠ 0) : pmis P 38 ↔ qw P (qd P) ≠ 2 := by unfold pmis; rw [if_neg h, if_neg (by decide), if_pos rfl]
theorem pm_0 {P : pP} (h : qd P ≠ 0) : pmis P 0 ↔ qw P (qd P) = 2 := by unfold pmis; rw [if_neg h, if_neg (by decide), if_neg (by decide), if_pos rfl]
theorem pm_w {P : pP} {w : Nat} (h : qd P ≠ 0) (a : w ≠ 37) (b : w ≠ 38) (c : w ≠ 0) : pmis P w ↔ qw P (qd P) ≠ 0 := by unfold pmis; rw [if_neg h, if_neg a, if_neg b, if_neg c]
theorem qw_b {P : pP} (h : PI P) (hd : qd P ≠ 0) : qw P (qd P) ≤ 2 := by
  rcases h.2.2.2.2 with ⟨a, _⟩ | ⟨a1, a2, a3, a4, a5, a6⟩
  · exact absurd a hd
  · rcases a6.2.2 with ⟨y, _⟩ | ⟨y, _⟩ | ⟨y, _⟩ <;> omega
theorem dv_t {p : Prop} (h : p) : some (Value.int (Int32.ofInt 1)) = some (.int (bI (dc p))) := by rw [dc_t h]; rfl
theorem dv_f {p : Prop} (h : ¬p) : some (Value.int (Int32.ofInt 0)) = some (.int (bI (dc p))) := by rw [dc_f h]; rfl
theorem nI_0i {n : Nat} (h : n < 2 ^ 31) : nI n = 0 ↔ n = 0 := nI_eq (b := 0) h (by decide)
/-- what waits outside all braces: nothing, until they are closed -/
def I0 (P : pP) : Prop := (qd P ≠ 0 ∨ qn P = 0) → qw P 0 = 0
theorem I0_put {P : pP} {w : Nat} {x : Int} (h : I0 P) (hm : ¬pmis P w) : I0 (pput P w x) := by
  intro hc
  rw [pput_n, pput_d] at hc
  by_cases w0 : w = 0
  · rw [show pput P w x = pwo (pw P w x) from if_pos w0]
    show va_up (qw P) (qd P + 1) 0 0 = 0
    rw [va_up_ne _ _ (by omega)]
    refine h ?_
    by_cases d : qd P = 0
    · right
      apply Classical.byContradiction
      intro z; apply hm; unfold pmis; rw [if_pos d]; omega
    · exact Or.inl d
  · rw [if_neg w0] at hc
    by_cases w1 : w = 1
    · rw [if_pos w1] at hc
      rw [show pput P w x = pwc (pw P w x) from (if_neg w0).trans (if_pos w1)]
      show va_up (qw P) (qd P - 1) (qw P (qd P - 1) + 1) 0 = 0
      rw [va_up_ne _ _ (by omega)]
      exact h (by omega)
    · rw [if_neg w1] at hc
      by_cases w3 : 37 ≤ w
      · rw [show pput P w x = pwj (pw P w x) from (if_neg w0).trans ((if_neg w1).trans (if_pos w3))]
        show va_up (qw P) (qd P) 0 0 = 0
        rw [va_up_ne _ _ (by omega)]
        exact h (by omega)
      · rw [show pput P w x = pw P w x from (if_neg w0).trans ((if_neg w1).trans (if_neg w3))]
        exact h (by omega)
theorem I0_b {P : pP} (h : I0 P) (hP : PI P) (hd : 1 ≤ qd P) : qw P (qd P - 1) < 2 ^ 31 := by
  by_cases d : qd P = 1
  · rw [d]; show qw P 0 < _; rw [h (by omega)]; decide
  · rcases hP.2.2.2.2 with ⟨a, _⟩ | ⟨a1, a2, a3, a4, a5, a6⟩
    · omega
    · have := (a5 (qd P - 1) (by omega) (by omega)).2; omega
set_option maxHeartbeats 4000000 in
set_option maxRecDepth 100000 in
theorem R_close_m {l : Launch} {G : ax_G} (S : x_S) (tl : List va_E) (P : pP) (hR : RSr S P) (hd : 1 ≤ qd P ∧ qd P ≤ 12) (hb : qw P (qd P - 1) < 2 ^ 31) :
    AM l VV G R_close_y R_close_c 2 none 0 0 0 [.ref 141] (x_hC S tl) (fun v h' => v = none ∧ ∃ S', h' = x_hC S' tl ∧ RSr S' (pwc P) ∧ RFr S S') := by
  refine AM.of (pl := pl_R) (by decide) v_good fl_R_ok kl_R_ok nofun (Nat.le_of_ble_eq_true rfl) ?_
  intro p0v e0v s0v m0v args below meth c0v X
  refine AW.run X R_close_d 0 4 rfl ?_
  refine AW.cl8 (j := qd P) X hR.1.2 (by omega) (R_close_d.d 4 rfl) ?_
  rw [hR.2.1.2.1 (qd P)]
  refine AW.run X R_close_d 5 6 rfl ?_
  refine AW.cp6 X (R_close_d.d 11 rfl) ?_
  have hi1 : (x_i S 6 (S.1 6 - Int32.ofInt 1)).1 6 = nI (qd P - 1) := by rw [x_ig, hR.1.2]; exact pk_sub (b := 1) hd.1
  have hw1 : (x_i S 6 (S.1 6 - Int32.ofInt 1)).2.1 9 (qd P - 1) = nI (qw P (qd P - 1)) := hR.2.1.1 _
  refine AW.run X R_close_d 12 4 rfl ?_
  refine AW.cl9 (j := qd P - 1) X hi1 (by omega) (R_close_d.d 16 rfl) ?_
  refine AW.if_ne X (R_close_d.d 17 rfl) (fun q17 => ?_) (fun q17 => ?_)
  · refine AW.run X R_close_d 25 5 rfl ?_
    refine AW.cs11 (j := qd P - 1) X hi1 (by omega) (R_close_d.d 30 rfl) ?_
    refine AW.run X R_close_d 31 5 rfl ?_
    refine AW.cl9 (j := qd P - 1) X hi1 (by omega) (R_close_d.d 36 rfl) ?_
    refine AW.run X R_close_d 37 2 rfl ?_
    refine AW.cs9 (j := qd P - 1) X hi1 (by omega) (R_close_d.d 39 rfl) ?_
    exact AW.vret X (R_close_d.d 40 rfl) (Nat.le_of_ble_eq_true rfl) (Nat.le_of_ble_eq_true rfl) (by
      have hz : ¬qw P (qd P - 1) = 0 := fun z => q17 (by rw [hw1, z]; rfl)
      have e : pwc P = uw (us (ud P (qd P - 1)) (va_up (qs P) (qd P - 1) (qo P (qd P)))) (va_up (qw P) (qd P - 1) (qw P (qd P - 1) + 1)) := by unfold pwc; rw [if_neg hz, if_neg hz]; rfl
      exact ⟨rfl, _, rfl, e ▸ (((hR.d (n := qd P - 1) (x := S.1 6 - Int32.ofInt 1) (by rw [hR.1.2]; exact pk_sub (b := 1) hd.1)).s (j := qd P - 1) (n := qo P (qd P)) rfl).w (j := qd P - 1) (n := qw P (qd P - 1) + 1) (by
      show S.2.1 9 (qd P - 1) + Int32.ofInt 1 = _
      rw [hR.2.1.1, nI_o1])), (((RFr.refl S).i (S.1 6 - Int32.ofInt 1) (Or.inr (Or.inl rfl))).a _ _ (by decide)).a _ _ (by decide)⟩)
  · refine AW.run X R_close_d 18 5 rfl ?_
    refine AW.cs10 (j := qd P - 1) X hi1 (by omega) (R_close_d.d 23 rfl) ?_
    refine AW.goto X (R_close_d.d 24 rfl) ?_
    refine AW.run X R_close_d 31 5 rfl ?_
    refine AW.cl9 (j := qd P - 1) X hi1 (by omega) (R_close_d.d 36 rfl) ?_
    refine AW.run X R_close_d 37 2 rfl ?_
    refine AW.cs9 (j := qd P - 1) X hi1 (by omega) (R_close_d.d 39 rfl) ?_
    exact AW.vret X (R_close_d.d 40 rfl) (Nat.le_of_ble_eq_true rfl) (Nat.le_of_ble_eq_true rfl) (by
      have hz : qw P (qd P - 1) = 0 := (nI_0i hb).mp (by rw [← hw1]; exact q17)
      have e : pwc P = uw (uf (ud P (qd P - 1)) (va_up (qf P) (qd P - 1) (qo P (qd P)))) (va_up (qw P) (qd P - 1) (qw P (qd P - 1) + 1)) := by unfold pwc; rw [if_pos hz, if_pos hz]; rfl
      exact ⟨rfl, _, rfl, e ▸ (((hR.d (n := qd P - 1) (x := S.1 6 - Int32.ofInt 1) (by rw [hR.1.2]; exact pk_sub (b := 1) hd.1)).f (j := qd P - 1) (n := qo P (qd P)) rfl).w (j := qd P - 1) (n := qw P (qd P - 1) + 1) (by
      show S.2.1 9 (qd P - 1) + Int32.ofInt 1 = _
      rw [hR.2.1.1, nI_o1])), (((RFr.refl S).i (S.1 6 - Int32.ofInt 1) (Or.inr (Or.inl rfl))).a _ _ (by decide)).a _ _ (by decide)⟩)

set_option maxHeartbeats 4000000 in
set_option maxRecDepth 100000 in
theorem R_joinChoice_m {l : Launch} {G : ax_G} (S : x_S) (tl : List va_E) (P : pP) (a : Nat) (hR : RSr S P) (ha : qn P = a + 1) (h1 : 1 ≤ a ∧ a < 400) (hd : 1 ≤ qd P ∧ qd P ≤ 12) (hf : qf P (qd P) < 400) (hs : qw P (qd P) = 2 → 1 ≤ qs P (qd P) ∧ qs P (qd P) ≤ 400) (hq : qw P (qd P) ≤ 2) :
    AM l VV G R_joinChoice_y R_joinChoice_c 4 none 0 0 0 [.ref 141, .int (nI a)] (x_hC S tl) (fun v h' => v = none ∧ ∃ S', h' = x_hC S' tl ∧ RSr S' (pwj P) ∧ RFr S S') := by
  refine AM.of (pl := pl_R) (by decide) v_good fl_R_ok kl_R_ok nofun (Nat.le_of_ble_eq_true rfl) ?_
  intro p0v e0v s0v m0v args below meth c0v X
  refine AW.run X R_joinChoice_d 0 4 rfl ?_
  refine AW.cl10 (j := qd P) X hR.1.2 (by omega) (R_joinChoice_d.d 4 rfl) ?_
  rw [hR.2.1.2.2.1 (qd P)]
  refine AW.run X R_joinChoice_d 5 5 rfl ?_
  refine AW.cs6 (j := qf P (qd P)) X rfl hf (R_joinChoice_d.d 10 rfl) ?_
  refine AW.run X R_joinChoice_d 11 6 rfl ?_
  refine AW.cs6 (j := a) X rfl (by omega) (R_joinChoice_d.d 17 rfl) ?_
  refine AW.run X R_joinChoice_d 18 8 rfl ?_
  refine AW.cs6 (j := a - 1) X (pk_sub (b := 1) h1.1) (by omega) (R_joinChoice_d.d 26 rfl) ?_
  have hw1 : (x_a (x_a (x_a S 6 (qf P (qd P)) (nI a)) 6 a (nI (qf P (qd P)) + Int32.ofInt 1)) 6 (a - 1) (nI a + Int32.ofInt 1)).2.1 9 (qd P) = nI (qw P (qd P)) := hR.2.1.1 _
  have e1 : qn P - 1 = a := by omega
  have e2 : qn P - 2 = a - 1 := by omega
  refine AW.run X R_joinChoice_d 27 4 rfl ?_
  refine AW.cl9 (j := qd P) X hR.1.2 (by omega) (R_joinChoice_d.d 31 rfl) ?_
  refine AW.run X R_joinChoice_d 32 1 rfl ?_
  refine AW.icmp_ne X (R_joinChoice_d.d 33 rfl) (fun q33 => ?_) (fun q33 => ?_)
  · refine AW.run X R_joinChoice_d 56 5 rfl ?_
    refine AW.cs9 (j := qd P) X hR.1.2 (by omega) (R_joinChoice_d.d 61 rfl) ?_
    exact AW.vret X (R_joinChoice_d.d 62 rfl) (Nat.le_of_ble_eq_true rfl) (Nat.le_of_ble_eq_true rfl) (by
      have hz : ¬qw P (qd P) = 2 := fun z => q33 (by rw [hw1, z]; rfl)
      have e : pwj P = uw (ut P (va_up (va_up (va_up (qt P) (qf P (qd P)) a) a (qf P (qd P) + 1)) (a - 1) (qn P))) (va_up (qw P) (qd P) 0) := by unfold pwj; rw [if_neg hz, if_neg hz, e1, e2]; rfl
      exact ⟨rfl, _, rfl, e ▸ ((((hR.t (j := qf P (qd P)) (n := a) rfl).t (j := a) (n := qf P (qd P) + 1) (nI_o1 _)).t (j := a - 1) (n := qn P) (by rw [nI_o1, ha])).w (j := qd P) (n := 0) rfl), ((((RFr.refl S).a _ _ (by decide)).a _ _ (by decide)).a _ _ (by decide)).a _ _ (by decide)⟩)
  · have hz : qw P (qd P) = 2 := (nI_eq (b := 2) (by omega) (by decide)).mp (by rw [← hw1]; exact q33)
    have hs1 : (x_a (x_a (x_a S 6 (qf P (qd P)) (nI a)) 6 a (nI (qf P (qd P)) + Int32.ofInt 1)) 6 (a - 1) (nI a + Int32.ofInt 1)).2.1 11 (qd P) = nI (qs P (qd P)) := hR.2.1.2.2.2 _
    have hs2 := hs hz
    refine AW.run X R_joinChoice_d 34 4 rfl ?_
    refine AW.cl11 (j := qd P) X hR.1.2 (by omega) (R_joinChoice_d.d 38 rfl) ?_
    rw [hs1]
    refine AW.run X R_joinChoice_d 39 9 rfl ?_
    refine AW.cs6 (j := qs P (qd P) - 1) X (show nI (qs P (qd P)) - Int32.ofInt 1 = nI (qs P (qd P) - 1) from pk_sub (b := 1) (by omega)) (by omega) (R_joinChoice_d.d 48 rfl) ?_
    refine AW.run X R_joinChoice_d 49 6 rfl ?_
    refine AW.cs7 (j := a) X rfl (by omega) (R_joinChoice_d.d 55 rfl) ?_
    refine AW.run X R_joinChoice_d 56 5 rfl ?_
    refine AW.cs9 (j := qd P) X hR.1.2 (by omega) (R_joinChoice_d.d 61 rfl) ?_
    exact AW.vret X (R_joinChoice_d.d 62 rfl) (Nat.le_of_ble_eq_true rfl) (Nat.le_of_ble_eq_true rfl) (by
      have e : pwj P = uw (ue (ut P (va_up (va_up (va_up (va_up (qt P) (qf P (qd P)) a) a (qf P (qd P) + 1)) (a - 1) (qn P)) (qs P (qd P) - 1) (qn P))) (va_up (qe P) a (qs P (qd P) + 1))) (va_up (qw P) (qd P) 0) := by unfold pwj; rw [if_pos hz, if_pos hz, e1, e2]; rfl
      exact ⟨rfl, _, rfl, e ▸ ((((((hR.t (j := qf P (qd P)) (n := a) rfl).t (j := a) (n := qf P (qd P) + 1) (nI_o1 _)).t (j := a - 1) (n := qn P) (by rw [nI_o1, ha])).t (j := qs P (qd P) - 1) (n := qn P) (by rw [nI_o1, ha])).e (j := a) (n := qs P (qd P) + 1) (nI_o1 _)).w (j := qd P) (n := 0) rfl), ((((((RFr.refl S).a _ _ (by decide)).a _ _ (by decide)).a _ _ (by decide)).a _ _ (by decide)).a _ _ (by decide)).a _ _ (by decide)⟩)

set_option maxHeartbeats 4000000 in
set_option maxRecDepth 100000 in
theorem R_put_m {l : Launch} {G : ax_G} (S : x_S) (tl : List va_E) (P : pP) (w : Nat) (x : Int) (hR : RSr S P) (hx : S.1 8 = iZ x) (hw : w < 39) (hn : qn P < 400) (h0 : w = 0 → qd P < 12) (h1 : w = 1 → 1 ≤ qd P ∧ qd P ≤ 12) (hb : w = 1 → qw P (qd P - 1) < 2 ^ 31) (h37 : 37 ≤ w → 1 ≤ qd P ∧ qd P ≤ 12 ∧ 1 ≤ qn P ∧ qf P (qd P) < 400 ∧ (qw P (qd P) = 2 → 1 ≤ qs P (qd P) ∧ qs P (qd P) ≤ 400) ∧ qw P (qd P) ≤ 2) :
    AM l VV G R_put_y R_put_c 3 none 1 0 0 [.ref 141, .ref w] (x_hC S tl) (fun v h' => v = none ∧ ∃ S', h' = x_hC S' tl ∧ RSr S' (pput P w x) ∧ RFr S S') := by
  refine AM.of (pl := pl_R) (by decide) v_good fl_R_ok kl_R_ok nofun (Nat.le_of_ble_eq_true rfl) ?_
  intro p0v e0v s0v m0v args below meth c0v X
  obtain ⟨kk, hkk⟩ := v_wg w hw
  refine AW.run X R_put_d 0 1 rfl ?_
  refine AW.run X R_put_d 1 1 rfl ?_
  rw [hR.1.1]
  refine AW.run X R_put_d 2 3 rfl ?_
  refine AW.run X R_put_d 5 1 rfl ?_
  rw [hR.1.1]
  refine AW.run X R_put_d 6 2 rfl ?_
  refine AW.cp5 X (R_put_d.d 8 rfl) ?_
  refine AW.run X R_put_d 9 4 rfl ?_
  refine AW.crs1 (j := qn P) X ((x_at _ tl (by omega)).trans hkk) rfl (Or.inl rfl) rfl (by omega) (R_put_d.d 13 rfl) ?_
  refine AW.run X R_put_d 14 5 rfl ?_
  refine AW.cs5 (j := qn P) X rfl (by omega) (R_put_d.d 19 rfl) ?_
  refine AW.run X R_put_d 20 5 rfl ?_
  refine AW.cs6 (j := qn P) X rfl (by omega) (R_put_d.d 25 rfl) ?_
  refine AW.run X R_put_d 26 5 rfl ?_
  refine AW.cs7 (j := qn P) X rfl (by omega) (R_put_d.d 31 rfl) ?_
  have hP5 : RSr (x_a (x_a (x_a (x_r (x_i S 5 (nI (qn P) + Int32.ofInt 1)) 1 (qn P) (some w)) 5 (qn P) ((x_r (x_i S 5 (nI (qn P) + Int32.ofInt 1)) 1 (qn P) (some w)).1 8)) 6 (qn P) ((x_a (x_r (x_i S 5 (nI (qn P) + Int32.ofInt 1)) 1 (qn P) (some w)) 5 (qn P) ((x_r (x_i S 5 (nI (qn P) + Int32.ofInt 1)) 1 (qn P) (some w)).1 8)).1 5)) 7 (qn P) ((x_a (x_a (x_r (x_i S 5 (nI (qn P) + Int32.ofInt 1)) 1 (qn P) (some w)) 5 (qn P) ((x_r (x_i S 5 (nI (qn P) + Int32.ofInt 1)) 1 (qn P) (some w)).1 8)) 6 (qn P) ((x_a (x_r (x_i S 5 (nI (qn P) + Int32.ofInt 1)) 1 (qn P) (some w)) 5 (qn P) ((x_r (x_i S 5 (nI (qn P) + Int32.ofInt 1)) 1 (qn P) (some w)).1 8)).1 5)).1 5)) (pw P w x) := hR.pw (nI_o1 _) ((x_in S (k := 5) (j := 8) (nI (qn P) + Int32.ofInt 1) (by decide)).trans hx) ((x_ig S 5 (nI (qn P) + Int32.ofInt 1)).trans (nI_o1 _)) ((x_ig S 5 (nI (qn P) + Int32.ofInt 1)).trans (nI_o1 _))
  have hF5 : RFr S (x_a (x_a (x_a (x_r (x_i S 5 (nI (qn P) + Int32.ofInt 1)) 1 (qn P) (some w)) 5 (qn P) ((x_r (x_i S 5 (nI (qn P) + Int32.ofInt 1)) 1 (qn P) (some w)).1 8)) 6 (qn P) ((x_a (x_r (x_i S 5 (nI (qn P) + Int32.ofInt 1)) 1 (qn P) (some w)) 5 (qn P) ((x_r (x_i S 5 (nI (qn P) + Int32.ofInt 1)) 1 (qn P) (some w)).1 8)).1 5)) 7 (qn P) ((x_a (x_a (x_r (x_i S 5 (nI (qn P) + Int32.ofInt 1)) 1 (qn P) (some w)) 5 (qn P) ((x_r (x_i S 5 (nI (qn P) + Int32.ofInt 1)) 1 (qn P) (some w)).1 8)) 6 (qn P) ((x_a (x_r (x_i S 5 (nI (qn P) + Int32.ofInt 1)) 1 (qn P) (some w)) 5 (qn P) ((x_r (x_i S 5 (nI (qn P) + Int32.ofInt 1)) 1 (qn P) (some w)).1 8)).1 5)).1 5)) := (((((RFr.refl S).i _ (Or.inl rfl)).r _ _).a _ _ (by decide)).a _ _ (by decide)).a _ _ (by decide)
  refine AW.run X R_put_d 32 1 rfl ?_
  refine AW.gets X gs_R_85.1 gs_R_85.2 (R_put_d.d 33 rfl) ?_
  refine AW.acmp_ne X (some w) (some 0) (Or.inl hw) (Or.inl (by decide)) (R_put_d.d 34 rfl) (fun q34 => ?_) (fun q34 => ?_)
  · refine AW.run X R_put_d 54 1 rfl ?_
    refine AW.gets X gs_R_108.1 gs_R_108.2 (R_put_d.d 55 rfl) ?_
    refine AW.acmp_ne X (some w) (some 1) (Or.inl hw) (Or.inl (by decide)) (R_put_d.d 56 rfl) (fun q56 => ?_) (fun q56 => ?_)
    · have hw0 : w ≠ 0 := fun z => q34 (by rw [z])
      have hw1 : w ≠ 1 := fun z => q56 (by rw [z])
      refine AW.run X R_put_d 60 1 rfl ?_
      refine AW.get X ((x_at _ tl (by omega)).trans hkk) rfl rfl (R_put_d.d 61 rfl) ?_
      refine AW.run X R_put_d 62 1 rfl ?_
      refine AW.icmp_ne X (R_put_d.d 63 rfl) (fun q63 => ?_) (fun q63 => ?_)
      · exact AW.vret X (R_put_d.d 67 rfl) (Nat.le_of_ble_eq_true rfl) (Nat.le_of_ble_eq_true rfl) ⟨rfl, _, rfl, (show pput P w x = pw P w x from (if_neg hw0).trans ((if_neg hw1).trans (if_neg (fun z => q63 (by rw [(wgp_9 hw).mpr z]; rfl))))) ▸ hP5, hF5⟩
      · refine AW.run X R_put_d 64 2 rfl ?_
        have hw37 : 37 ≤ w := (wgp_9 hw).mp ((nI_eq (by have := wgp_l hw; omega) (by decide)).mp q63)
        obtain ⟨k1, k2, k3, k4, k5, k6⟩ := h37 hw37
        refine AW.callV (As := [.int (nI (qn P))]) X (R_joinChoice_m _ tl (pw P w x) (qn P) hP5 rfl ⟨k3, hn⟩ ⟨k1, k2⟩ k4 k5 k6) cb_R_117 rfl rfl R_joinChoice_im R_joinChoice_se rfl ⟨Nat.le_of_ble_eq_true rfl, Nat.le_of_ble_eq_true rfl⟩ (Nat.le_of_ble_eq_true rfl) ⟨Nat.le_of_ble_eq_true rfl, Nat.le_of_ble_eq_true rfl⟩ (R_put_d.d 66 rfl) (fun v h' q => ?_)
        obtain ⟨rfl, S7, rfl, r1, r2⟩ := q
        exact AW.vret X (R_put_d.d 67 rfl) (Nat.le_of_ble_eq_true rfl) (Nat.le_of_ble_eq_true rfl) ⟨rfl, S7, rfl, (show pput P w x = pwj (pw P w x) from (if_neg hw0).trans ((if_neg hw1).trans (if_pos hw37))) ▸ r1, hF5.trans r2⟩
    · have hw1 : w = 1 := Option.some.inj q56
      refine AW.run X R_put_d 57 1 rfl ?_
      refine AW.callV (As := []) X (R_close_m _ tl (pw P w x) hP5 (h1 hw1) (hb hw1)) cb_R_111 rfl rfl R_close_im R_close_se rfl ⟨Nat.le_of_ble_eq_true rfl, Nat.le_of_ble_eq_true rfl⟩ (Nat.le_of_ble_eq_true rfl) ⟨Nat.le_of_ble_eq_true rfl, Nat.le_of_ble_eq_true rfl⟩ (R_put_d.d 58 rfl) (fun v h' q => ?_)
      obtain ⟨rfl, S7, rfl, r1, r2⟩ := q
      refine AW.goto X (R_put_d.d 59 rfl) ?_
      exact AW.vret X (R_put_d.d 67 rfl) (Nat.le_of_ble_eq_true rfl) (Nat.le_of_ble_eq_true rfl) ⟨rfl, S7, rfl, (show pput P w x = pwc (pw P w x) from (if_neg (by omega)).trans (if_pos hw1)) ▸ r1, hF5.trans r2⟩
  · refine AW.run X R_put_d 35 5 rfl ?_
    refine AW.cp6 X (R_put_d.d 40 rfl) ?_
    have hi1 : (x_i (x_a (x_a (x_a (x_r (x_i S 5 (nI (qn P) + Int32.ofInt 1)) 1 (qn P) (some w)) 5 (qn P) ((x_r (x_i S 5 (nI (qn P) + Int32.ofInt 1)) 1 (qn P) (some w)).1 8)) 6 (qn P) ((x_a (x_r (x_i S 5 (nI (qn P) + Int32.ofInt 1)) 1 (qn P) (some w)) 5 (qn P) ((x_r (x_i S 5 (nI (qn P) + Int32.ofInt 1)) 1 (qn P) (some w)).1 8)).1 5)) 7 (qn P) ((x_a (x_a (x_r (x_i S 5 (nI (qn P) + Int32.ofInt 1)) 1 (qn P) (some w)) 5 (qn P) ((x_r (x_i S 5 (nI (qn P) + Int32.ofInt 1)) 1 (qn P) (some w)).1 8)) 6 (qn P) ((x_a (x_r (x_i S 5 (nI (qn P) + Int32.ofInt 1)) 1 (qn P) (some w)) 5 (qn P) ((x_r (x_i S 5 (nI (qn P) + Int32.ofInt 1)) 1 (qn P) (some w)).1 8)).1 5)).1 5)) 6 ((x_a (x_a (x_a (x_r (x_i S 5 (nI (qn P) + Int32.ofInt 1)) 1 (qn P) (some w)) 5 (qn P) ((x_r (x_i S 5 (nI (qn P) + Int32.ofInt 1)) 1 (qn P) (some w)).1 8)) 6 (qn P) ((x_a (x_r (x_i S 5 (nI (qn P) + Int32.ofInt 1)) 1 (qn P) (some w)) 5 (qn P) ((x_r (x_i S 5 (nI (qn P) + Int32.ofInt 1)) 1 (qn P) (some w)).1 8)).1 5)) 7 (qn P) ((x_a (x_a (x_r (x_i S 5 (nI (qn P) + Int32.ofInt 1)) 1 (qn P) (some w)) 5 (qn P) ((x_r (x_i S 5 (nI (qn P) + Int32.ofInt 1)) 1 (qn P) (some w)).1 8)) 6 (qn P) ((x_a (x_r (x_i S 5 (nI (qn P) + Int32.ofInt 1)) 1 (qn P) (some w)) 5 (qn P) ((x_r (x_i S 5 (nI (qn P) + Int32.ofInt 1)) 1 (qn P) (some w)).1 8)).1 5)).1 5)).1 6 + Int32.ofInt 1)).1 6 = nI (qd P + 1) := by rw [x_ig, show (x_a (x_a (x_a (x_r (x_i S 5 (nI (qn P) + Int32.ofInt 1)) 1 (qn P) (some w)) 5 (qn P) ((x_r (x_i S 5 (nI (qn P) + Int32.ofInt 1)) 1 (qn P) (some w)).1 8)) 6 (qn P) ((x_a (x_r (x_i S 5 (nI (qn P) + Int32.ofInt 1)) 1 (qn P) (some w)) 5 (qn P) ((x_r (x_i S 5 (nI (qn P) + Int32.ofInt 1)) 1 (qn P) (some w)).1 8)).1 5)) 7 (qn P) ((x_a (x_a (x_r (x_i S 5 (nI (qn P) + Int32.ofInt 1)) 1 (qn P) (some w)) 5 (qn P) ((x_r (x_i S 5 (nI (qn P) + Int32.ofInt 1)) 1 (qn P) (some w)).1 8)) 6 (qn P) ((x_a (x_r (x_i S 5 (nI (qn P) + Int32.ofInt 1)) 1 (qn P) (some w)) 5 (qn P) ((x_r (x_i S 5 (nI (qn P) + Int32.ofInt 1)) 1 (qn P) (some w)).1 8)).1 5)).1 5)).1 6 = nI (qd P) from hR.1.2, nI_o1]
    have hw0 : w = 0 := Option.some.inj q34
    have hd0 := h0 hw0
    refine AW.run X R_put_d 41 5 rfl ?_
    refine AW.cs8 (j := qd P + 1) X hi1 (by omega) (R_put_d.d 46 rfl) ?_
    refine AW.run X R_put_d 47 5 rfl ?_
    refine AW.cs9 (j := qd P + 1) X hi1 (by omega) (R_put_d.d 52 rfl) ?_
    refine AW.goto X (R_put_d.d 53 rfl) ?_
    exact AW.vret X (R_put_d.d 67 rfl) (Nat.le_of_ble_eq_true rfl) (Nat.le_of_ble_eq_true rfl) ⟨rfl, _, rfl, (show pput P w x = uw (uo (ud (pw P w x) (qd P + 1)) (va_up (qo P) (qd P + 1) (qn P))) (va_up (qw P) (qd P + 1) 0) from (if_pos hw0).trans rfl) ▸ (((hP5.d (n := qd P + 1) (by rw [show (x_a (x_a (x_a (x_r (x_i S 5 (nI (qn P) + Int32.ofInt 1)) 1 (qn P) (some w)) 5 (qn P) ((x_r (x_i S 5 (nI (qn P) + Int32.ofInt 1)) 1 (qn P) (some w)).1 8)) 6 (qn P) ((x_a (x_r (x_i S 5 (nI (qn P) + Int32.ofInt 1)) 1 (qn P) (some w)) 5 (qn P) ((x_r (x_i S 5 (nI (qn P) + Int32.ofInt 1)) 1 (qn P) (some w)).1 8)).1 5)) 7 (qn P) ((x_a (x_a (x_r (x_i S 5 (nI (qn P) + Int32.ofInt 1)) 1 (qn P) (some w)) 5 (qn P) ((x_r (x_i S 5 (nI (qn P) + Int32.ofInt 1)) 1 (qn P) (some w)).1 8)) 6 (qn P) ((x_a (x_r (x_i S 5 (nI (qn P) + Int32.ofInt 1)) 1 (qn P) (some w)) 5 (qn P) ((x_r (x_i S 5 (nI (qn P) + Int32.ofInt 1)) 1 (qn P) (some w)).1 8)).1 5)).1 5)).1 6 = nI (qd P) from hR.1.2, nI_o1])).o (j := qd P + 1) (n := qn P) rfl).w (j := qd P + 1) (n := 0) rfl), ((hF5.i _ (Or.inr (Or.inl rfl))).a _ _ (by decide)).a _ _ (by decide)⟩

set_option maxHeartbeats 4000000 in
set_option maxRecDepth 100000 in
theorem R_isMisplacedN_m {l : Launch} {G : ax_G} (S : x_S) (tl : List va_E) (P : pP) (hR : RSr S P) (hP : PI P) :
    AM l VV G R_isMisplaced_y R_isMisplaced_c 2 (some .boolean) 0 0 0 [.ref 141, .null] (x_hC S tl) (fun v h' => v = some (.int (bI (dc (pmis P 39)))) ∧ h' = x_hC S tl) := by
  refine AM.of (pl := pl_R) (by decide) v_good fl_R_ok kl_R_ok nofun (Nat.le_of_ble_eq_true rfl) ?_
  intro p0v e0v s0v m0v args below meth c0v X
  have hr : (none : Option Nat) = if 39 = 39 then none else some 39 := rfl
  have hd := PI_d hP
  have hn4 := hP.1
  refine AW.run X R_isMisplaced_d 0 2 rfl ?_
  refine AW.if_ne X (R_isMisplaced_d.d 2 rfl) (fun q2 => ?_) (fun q2 => ?_)
  · have hd0 : qd P ≠ 0 := fun z => q2 (by rw [hR.1.2, z]; rfl)
    have hqb := qw_b hP hd0
    refine AW.run X R_isMisplaced_d 13 1 rfl ?_
    refine AW.gets X gs_R_102.1 gs_R_102.2 (R_isMisplaced_d.d 14 rfl) ?_
    refine AW.acmp_ne X none (some 37) trivial (Or.inl (by decide)) (R_isMisplaced_d.d 15 rfl) (fun q15 => ?_) (fun q15 => nomatch q15)
    refine AW.run X R_isMisplaced_d 27 1 rfl ?_
    refine AW.gets X gs_R_105.1 gs_R_105.2 (R_isMisplaced_d.d 28 rfl) ?_
    refine AW.acmp_ne X none (some 38) trivial (Or.inl (by decide)) (R_isMisplaced_d.d 29 rfl) (fun q29 => ?_) (fun q29 => nomatch q29)
    refine AW.run X R_isMisplaced_d 41 1 rfl ?_
    refine AW.gets X gs_R_85.1 gs_R_85.2 (R_isMisplaced_d.d 42 rfl) ?_
    refine AW.acmp_ne X none (some 0) trivial (Or.inl (by decide)) (R_isMisplaced_d.d 43 rfl) (fun q43 => ?_) (fun q43 => nomatch q43)
    refine AW.run X R_isMisplaced_d 55 4 rfl ?_
    refine AW.cl9 (j := qd P) X hR.1.2 (by omega) (R_isMisplaced_d.d 59 rfl) ?_
    rw [hR.2.1.1 (qd P)]
    refine AW.if_eq X (R_isMisplaced_d.d 60 rfl) (fun q60 => ?_) (fun q60 => ?_)
    · refine AW.run X R_isMisplaced_d 63 1 rfl ?_
      exact AW.zret X (by first | exact n_0 | exact n_1 | exact bI_nar _) (R_isMisplaced_d.d 64 rfl) (Nat.le_of_ble_eq_true rfl) (Nat.le_of_ble_eq_true rfl) ⟨dv_f (fun z => (pm_w hd0 (fun y => q15 ((wr_i hr (by decide)).mpr y)) (fun y => q29 ((wr_i hr (by decide)).mpr y)) (fun y => q43 ((wr_i hr (by decide)).mpr y))).mp z ((nI_0i (by omega)).mp q60)), rfl⟩
    · refine AW.run X R_isMisplaced_d 61 1 rfl ?_
      refine AW.goto X (R_isMisplaced_d.d 62 rfl) ?_
      exact AW.zret X (by first | exact n_0 | exact n_1 | exact bI_nar _) (R_isMisplaced_d.d 64 rfl) (Nat.le_of_ble_eq_true rfl) (Nat.le_of_ble_eq_true rfl) ⟨dv_t ((pm_w hd0 (fun y => q15 ((wr_i hr (by decide)).mpr y)) (fun y => q29 ((wr_i hr (by decide)).mpr y)) (fun y => q43 ((wr_i hr (by decide)).mpr y))).mpr (fun z => q60 (by rw [z]; rfl))), rfl⟩
  · have hd0 : qd P = 0 := (nI_0i (by omega)).mp (by rw [← hR.1.2]; exact q2)
    refine AW.run X R_isMisplaced_d 3 1 rfl ?_
    refine AW.gets X gs_R_85.1 gs_R_85.2 (R_isMisplaced_d.d 4 rfl) ?_
    refine AW.acmp_ne X none (some 0) trivial (Or.inl (by decide)) (R_isMisplaced_d.d 5 rfl) (fun q5 => ?_) (fun q5 => nomatch q5)
    refine AW.run X R_isMisplaced_d 9 1 rfl ?_
    refine AW.goto X (R_isMisplaced_d.d 10 rfl) ?_
    exact AW.zret X (by first | exact n_0 | exact n_1 | exact bI_nar _) (R_isMisplaced_d.d 12 rfl) (Nat.le_of_ble_eq_true rfl) (Nat.le_of_ble_eq_true rfl) ⟨dv_t ((pm_00 hd0).mpr (fun z => q5 ((wr_i hr (by decide)).mpr z.1))), rfl⟩

set_option maxHeartbeats 4000000 in
set_option maxRecDepth 100000 in
theorem R_isMisplacedS_m {l : Launch} {G : ax_G} (S : x_S) (tl : List va_E) (P : pP) (w : Nat) (hR : RSr S P) (hP : PI P) (hw : w < 39) :
    AM l VV G R_isMisplaced_y R_isMisplaced_c 2 (some .boolean) 0 0 0 [.ref 141, .ref w] (x_hC S tl) (fun v h' => v = some (.int (bI (dc (pmis P w)))) ∧ h' = x_hC S tl) := by
  refine AM.of (pl := pl_R) (by decide) v_good fl_R_ok kl_R_ok nofun (Nat.le_of_ble_eq_true rfl) ?_
  intro p0v e0v s0v m0v args below meth c0v X
  have hr : some w = if w = 39 then none else some w := (if_neg (by omega)).symm
  have hd := PI_d hP
  have hn4 := hP.1
  refine AW.run X R_isMisplaced_d 0 2 rfl ?_
  refine AW.if_ne X (R_isMisplaced_d.d 2 rfl) (fun q2 => ?_) (fun q2 => ?_)
  · have hd0 : qd P ≠ 0 := fun z => q2 (by rw [hR.1.2, z]; rfl)
    have hqb := qw_b hP hd0
    refine AW.run X R_isMisplaced_d 13 1 rfl ?_
    refine AW.gets X gs_R_102.1 gs_R_102.2 (R_isMisplaced_d.d 14 rfl) ?_
    refine AW.acmp_ne X (some w) (some 37) (Or.inl hw) (Or.inl (by decide)) (R_isMisplaced_d.d 15 rfl) (fun q15 => ?_) (fun q15 => ?_)
    · refine AW.run X R_isMisplaced_d 27 1 rfl ?_
      refine AW.gets X gs_R_105.1 gs_R_105.2 (R_isMisplaced_d.d 28 rfl) ?_
      refine AW.acmp_ne X (some w) (some 38) (Or.inl hw) (Or.inl (by decide)) (R_isMisplaced_d.d 29 rfl) (fun q29 => ?_) (fun q29 => ?_)
      · refine AW.run X R_isMisplaced_d 41 1 rfl ?_
        refine AW.gets X gs_R_85.1 gs_R_85.2 (R_isMisplaced_d.d 42 rfl) ?_
        refine AW.acmp_ne X (some w) (some 0) (Or.inl hw) (Or.inl (by decide)) (R_isMisplaced_d.d 43 rfl) (fun q43 => ?_) (fun q43 => ?_)
        · refine AW.run X R_isMisplaced_d 55 4 rfl ?_
          refine AW.cl9 (j := qd P) X hR.1.2 (by omega) (R_isMisplaced_d.d 59 rfl) ?_
          rw [hR.2.1.1 (qd P)]
          refine AW.if_eq X (R_isMisplaced_d.d 60 rfl) (fun q60 => ?_) (fun q60 => ?_)
          · refine AW.run X R_isMisplaced_d 63 1 rfl ?_
            exact AW.zret X (by first | exact n_0 | exact n_1 | exact bI_nar _) (R_isMisplaced_d.d 64 rfl) (Nat.le_of_ble_eq_true rfl) (Nat.le_of_ble_eq_true rfl) ⟨dv_f (fun z => (pm_w hd0 (fun y => q15 ((wr_i hr (by decide)).mpr y)) (fun y => q29 ((wr_i hr (by decide)).mpr y)) (fun y => q43 ((wr_i hr (by decide)).mpr y))).mp z ((nI_0i (by omega)).mp q60)), rfl⟩
          · refine AW.run X R_isMisplaced_d 61 1 rfl ?_
            refine AW.goto X (R_isMisplaced_d.d 62 rfl) ?_
            exact AW.zret X (by first | exact n_0 | exact n_1 | exact bI_nar _) (R_isMisplaced_d.d 64 rfl) (Nat.le_of_ble_eq_true rfl) (Nat.le_of_ble_eq_true rfl) ⟨dv_t ((pm_w hd0 (fun y => q15 ((wr_i hr (by decide)).mpr y)) (fun y => q29 ((wr_i hr (by decide)).mpr y)) (fun y => q43 ((wr_i hr (by decide)).mpr y))).mpr (fun z => q60 (by rw [z]; rfl))), rfl⟩
        · refine AW.run X R_isMisplaced_d 44 4 rfl ?_
          refine AW.cl9 (j := qd P) X hR.1.2 (by omega) (R_isMisplaced_d.d 48 rfl) ?_
          rw [hR.2.1.1 (qd P)]
          refine AW.run X R_isMisplaced_d 49 1 rfl ?_
          refine AW.icmp_ne X (R_isMisplaced_d.d 50 rfl) (fun q50 => ?_) (fun q50 => ?_)
          · refine AW.run X R_isMisplaced_d 53 1 rfl ?_
            exact AW.zret X (by first | exact n_0 | exact n_1 | exact bI_nar _) (R_isMisplaced_d.d 54 rfl) (Nat.le_of_ble_eq_true rfl) (Nat.le_of_ble_eq_true rfl) ⟨dv_f (fun z => q50 (by rw [(pm_0 hd0).mp ((wr_i hr (by decide)).mp q43 ▸ z)]; rfl)), rfl⟩
          · refine AW.run X R_isMisplaced_d 51 1 rfl ?_
            refine AW.goto X (R_isMisplaced_d.d 52 rfl) ?_
            exact AW.zret X (by first | exact n_0 | exact n_1 | exact bI_nar _) (R_isMisplaced_d.d 54 rfl) (Nat.le_of_ble_eq_true rfl) (Nat.le_of_ble_eq_true rfl) ⟨dv_t ((wr_i hr (by decide)).mp q43 ▸ (pm_0 hd0).mpr ((nI_eq (b := 2) (by omega) (by decide)).mp q50)), rfl⟩
      · refine AW.run X R_isMisplaced_d 30 4 rfl ?_
        refine AW.cl9 (j := qd P) X hR.1.2 (by omega) (R_isMisplaced_d.d 34 rfl) ?_
        rw [hR.2.1.1 (qd P)]
        refine AW.run X R_isMisplaced_d 35 1 rfl ?_
        refine AW.icmp_eq X (R_isMisplaced_d.d 36 rfl) (fun q36 => ?_) (fun q36 => ?_)
        · refine AW.run X R_isMisplaced_d 39 1 rfl ?_
          exact AW.zret X (by first | exact n_0 | exact n_1 | exact bI_nar _) (R_isMisplaced_d.d 40 rfl) (Nat.le_of_ble_eq_true rfl) (Nat.le_of_ble_eq_true rfl) ⟨dv_f (fun z => (pm_38 hd0).mp ((wr_i hr (by decide)).mp q29 ▸ z) ((nI_eq (b := 2) (by omega) (by decide)).mp q36)), rfl⟩
        · refine AW.run X R_isMisplaced_d 37 1 rfl ?_
          refine AW.goto X (R_isMisplaced_d.d 38 rfl) ?_
          exact AW.zret X (by first | exact n_0 | exact n_1 | exact bI_nar _) (R_isMisplaced_d.d 40 rfl) (Nat.le_of_ble_eq_true rfl) (Nat.le_of_ble_eq_true rfl) ⟨dv_t ((wr_i hr (by decide)).mp q29 ▸ (pm_38 hd0).mpr (fun z => q36 (by rw [z]; rfl))), rfl⟩
    · refine AW.run X R_isMisplaced_d 16 4 rfl ?_
      refine AW.cl9 (j := qd P) X hR.1.2 (by omega) (R_isMisplaced_d.d 20 rfl) ?_
      rw [hR.2.1.1 (qd P)]
      refine AW.run X R_isMisplaced_d 21 1 rfl ?_
      refine AW.icmp_eq X (R_isMisplaced_d.d 22 rfl) (fun q22 => ?_) (fun q22 => ?_)
      · refine AW.run X R_isMisplaced_d 25 1 rfl ?_
        exact AW.zret X (by first | exact n_0 | exact n_1 | exact bI_nar _) (R_isMisplaced_d.d 26 rfl) (Nat.le_of_ble_eq_true rfl) (Nat.le_of_ble_eq_true rfl) ⟨dv_f (fun z => (pm_37 hd0).mp ((wr_i hr (by decide)).mp q15 ▸ z) ((nI_eq (b := 1) (by omega) (by decide)).mp q22)), rfl⟩
      · refine AW.run X R_isMisplaced_d 23 1 rfl ?_
        refine AW.goto X (R_isMisplaced_d.d 24 rfl) ?_
        exact AW.zret X (by first | exact n_0 | exact n_1 | exact bI_nar _) (R_isMisplaced_d.d 26 rfl) (Nat.le_of_ble_eq_true rfl) (Nat.le_of_ble_eq_true rfl) ⟨dv_t ((wr_i hr (by decide)).mp q15 ▸ (pm_37 hd0).mpr (fun z => q22 (by rw [z]; rfl))), rfl⟩
  · have hd0 : qd P = 0 := (nI_0i (by omega)).mp (by rw [← hR.1.2]; exact q2)
    refine AW.run X R_isMisplaced_d 3 1 rfl ?_
    refine AW.gets X gs_R_85.1 gs_R_85.2 (R_isMisplaced_d.d 4 rfl) ?_
    refine AW.acmp_ne X (some w) (some 0) (Or.inl hw) (Or.inl (by decide)) (R_isMisplaced_d.d 5 rfl) (fun q5 => ?_) (fun q5 => ?_)
    · refine AW.run X R_isMisplaced_d 9 1 rfl ?_
      refine AW.goto X (R_isMisplaced_d.d 10 rfl) ?_
      exact AW.zret X (by first | exact n_0 | exact n_1 | exact bI_nar _) (R_isMisplaced_d.d 12 rfl) (Nat.le_of_ble_eq_true rfl) (Nat.le_of_ble_eq_true rfl) ⟨dv_t ((pm_00 hd0).mpr (fun z => q5 ((wr_i hr (by decide)).mpr z.1))), rfl⟩
    · refine AW.run X R_isMisplaced_d 6 2 rfl ?_
      refine AW.if_le X (R_isMisplaced_d.d 8 rfl) (fun q8 => ?_) (fun q8 => ?_)
      · refine AW.run X R_isMisplaced_d 11 1 rfl ?_
        exact AW.zret X (by first | exact n_0 | exact n_1 | exact bI_nar _) (R_isMisplaced_d.d 12 rfl) (Nat.le_of_ble_eq_true rfl) (Nat.le_of_ble_eq_true rfl) ⟨dv_f (fun z => (pm_00 hd0).mp z ⟨(wr_i hr (by decide)).mp q5, by have := cge (a := 0) (b := qn P) q8 (by decide) hR.1.1; omega⟩), rfl⟩
      · refine AW.run X R_isMisplaced_d 9 1 rfl ?_
        refine AW.goto X (R_isMisplaced_d.d 10 rfl) ?_
        exact AW.zret X (by first | exact n_0 | exact n_1 | exact bI_nar _) (R_isMisplaced_d.d 12 rfl) (Nat.le_of_ble_eq_true rfl) (Nat.le_of_ble_eq_true rfl) ⟨dv_t ((pm_00 hd0).mpr (fun z => q8 (by rw [hR.1.1, z.2]; decide))), rfl⟩

