/-! PROGRAMS: the words of a row as items, with the tables that say where to go on -/
def Seg (cs on ow : Nat → Nat) : Nat → Nat → Nat → Prop
  | 0, a, b => a = b
  | n + 1, a, b => a = b ∨ (2 ≤ cs a ∧ cs a < 37 ∧ on a = a + 1 ∧ Seg cs on ow n (a + 1) b)
    ∨ (∃ e, cs a = 0 ∧ Seg cs on ow n (a + 1) e ∧ cs e = 1 ∧ cs (e + 1) = 37 ∧ on a = e + 1 ∧ on (e + 1) = a + 1 ∧ ow (e + 1) = e + 2 ∧ on e = e + 2 ∧ Seg cs on ow n (e + 2) b)
    ∨ (∃ e g, cs a = 0 ∧ Seg cs on ow n (a + 1) e ∧ cs e = 1 ∧ cs (e + 1) = 0 ∧ Seg cs on ow n (e + 2) g ∧ cs g = 1 ∧ cs (g + 1) = 38 ∧ on a = g + 1 ∧ on (g + 1) = a + 1 ∧ ow (g + 1) = e + 2 ∧ on e = g + 2 ∧ on g = g + 2 ∧ Seg cs on ow n (g + 2) b)
theorem Seg.nil (cs on ow : Nat → Nat) (n a : Nat) : Seg cs on ow n a a := by
  cases n with
  | zero => rfl
  | succ n => exact Or.inl rfl
theorem Seg.le {cs on ow : Nat → Nat} {n : Nat} : ∀ {a b : Nat}, Seg cs on ow n a b → a ≤ b := by
  induction n with
  | zero => intro a b h; exact Nat.le_of_eq h
  | succ n ih =>
    intro a b h
    rcases h with h | ⟨_, _, _, h⟩ | ⟨e, _, h1, _, _, _, _, _, _, h2⟩ | ⟨e, g, _, h1, _, _, h2, _, _, _, _, _, _, _, h3⟩
    · omega
    · have := ih h; omega
    · have := ih h1; have := ih h2; omega
    · have := ih h1; have := ih h2; have := ih h3; omega
theorem Seg.up {cs on ow : Nat → Nat} {n : Nat} : ∀ {a b : Nat}, Seg cs on ow n a b → Seg cs on ow (n + 1) a b := by
  induction n with
  | zero => intro a b h; exact Or.inl h
  | succ n ih =>
    intro a b h
    rcases h with h | ⟨h1, h2, h3, h⟩ | ⟨e, h1, h2, h3, h4, h5, h6, h7, h8, h9⟩ | ⟨e, g, h1, h2, h3, h4, h5, h6, h7, h8, h9, h10, h11, h12, h13⟩
    · exact Or.inl h
    · exact Or.inr (Or.inl ⟨h1, h2, h3, ih h⟩)
    · exact Or.inr (Or.inr (Or.inl ⟨e, h1, ih h2, h3, h4, h5, h6, h7, h8, ih h9⟩))
    · exact Or.inr (Or.inr (Or.inr ⟨e, g, h1, ih h2, h3, h4, ih h5, h6, h7, h8, h9, h10, h11, h12, ih h13⟩))
theorem Seg.mono {cs on ow : Nat → Nat} {n m a b : Nat} (h : Seg cs on ow n a b) (l : n ≤ m) : Seg cs on ow m a b := by
  induction l with
  | refl => exact h
  | step _ ih => exact ih.up
theorem Seg.frame {cs on ow cs' on' ow' : Nat → Nat} {n : Nat} : ∀ {a b : Nat}, Seg cs on ow n a b → (∀ j, a ≤ j → j < b → cs' j = cs j ∧ on' j = on j ∧ ow' j = ow j) → Seg cs' on' ow' n a b := by
  induction n with
  | zero => intro a b h _; exact h
  | succ n ih =>
    intro a b h f
    rcases h with h | ⟨h1, h2, h3, h⟩ | ⟨e, h1, h2, h3, h4, h5, h6, h7, h8, h9⟩ | ⟨e, g, h1, h2, h3, h4, h5, h6, h7, h8, h9, h10, h11, h12, h13⟩
    · exact Or.inl h
    · have := h.le
      obtain ⟨f1, f2, f3⟩ := f a (by omega) (by omega)
      exact Or.inr (Or.inl ⟨by omega, by omega, by omega, ih h (fun j _ _ => f j (by omega) (by omega))⟩)
    · have := h2.le
      have := h9.le
      obtain ⟨f1, f2, f3⟩ := f a (by omega) (by omega)
      obtain ⟨f4, f5, f6⟩ := f e (by omega) (by omega)
      obtain ⟨f7, f8, f9⟩ := f (e + 1) (by omega) (by omega)
      exact Or.inr (Or.inr (Or.inl ⟨e, by omega, ih h2 (fun j _ _ => f j (by omega) (by omega)), by omega, by omega, by omega, by omega, by omega, by omega, ih h9 (fun j _ _ => f j (by omega) (by omega))⟩))
    · have := h2.le
      have := h5.le
      have := h13.le
      obtain ⟨f1, f2, f3⟩ := f a (by omega) (by omega)
      obtain ⟨f4, f5, f6⟩ := f e (by omega) (by omega)
      obtain ⟨f7, f8, f9⟩ := f (e + 1) (by omega) (by omega)
      obtain ⟨i1, i2, i3⟩ := f g (by omega) (by omega)
      obtain ⟨i4, i5, i6⟩ := f (g + 1) (by omega) (by omega)
      exact Or.inr (Or.inr (Or.inr ⟨e, g, by omega, ih h2 (fun j _ _ => f j (by omega) (by omega)), by omega, by omega, ih h5 (fun j _ _ => f j (by omega) (by omega)), by omega, by omega, by omega, by omega, by omega, by omega, by omega, ih h13 (fun j _ _ => f j (by omega) (by omega))⟩))
theorem Seg.app {cs on ow : Nat → Nat} {n m : Nat} : ∀ {a b c : Nat}, Seg cs on ow n a b → Seg cs on ow m b c → Seg cs on ow (n + m) a c := by
  induction n with
  | zero => intro a b c h g; cases h; exact g.mono (by omega)
  | succ n ih =>
    intro a b c h k
    have e1 : n + 1 + m = (n + m) + 1 := by omega
    rw [e1]
    rcases h with h | ⟨h1, h2, h3, h⟩ | ⟨e, h1, h2, h3, h4, h5, h6, h7, h8, h9⟩ | ⟨e, g, h1, h2, h3, h4, h5, h6, h7, h8, h9, h10, h11, h12, h13⟩
    · cases h; exact k.mono (by omega)
    · exact Or.inr (Or.inl ⟨h1, h2, h3, ih h k⟩)
    · exact Or.inr (Or.inr (Or.inl ⟨e, h1, h2.mono (by omega), h3, h4, h5, h6, h7, h8, ih h9 k⟩))
    · exact Or.inr (Or.inr (Or.inr ⟨e, g, h1, h2.mono (by omega), h3, h4, h5.mono (by omega), h6, h7, h8, h9, h10, h11, h12, ih h13 k⟩))
/-- words a to b are whole items -/
def SG (cs on ow : Nat → Nat) (a b : Nat) : Prop := ∃ n, Seg cs on ow n a b
theorem SG.nil (cs on ow : Nat → Nat) (a : Nat) : SG cs on ow a a := ⟨0, rfl⟩
theorem SG.le {cs on ow : Nat → Nat} {a b : Nat} (h : SG cs on ow a b) : a ≤ b := h.elim fun _ h => h.le
theorem SG.app {cs on ow : Nat → Nat} {a b c : Nat} (h : SG cs on ow a b) (g : SG cs on ow b c) : SG cs on ow a c := by
  obtain ⟨n, h⟩ := h
  obtain ⟨m, g⟩ := g
  exact ⟨_, h.app g⟩
theorem SG.frame {cs on ow cs' on' ow' : Nat → Nat} {a b : Nat} (h : SG cs on ow a b) (f : ∀ j, a ≤ j → j < b → cs' j = cs j ∧ on' j = on j ∧ ow' j = ow j) : SG cs' on' ow' a b := h.elim fun n h => ⟨n, h.frame f⟩
theorem SG.word {cs on ow : Nat → Nat} {a : Nat} (h1 : 2 ≤ cs a) (h2 : cs a < 37) (h3 : on a = a + 1) : SG cs on ow a (a + 1) := ⟨1, Or.inr (Or.inl ⟨h1, h2, h3, rfl⟩)⟩
theorem SG.ifs {cs on ow : Nat → Nat} {a e : Nat} (h1 : cs a = 0) (h2 : SG cs on ow (a + 1) e) (h3 : cs e = 1) (h4 : cs (e + 1) = 37) (h5 : on a = e + 1) (h6 : on (e + 1) = a + 1) (h7 : ow (e + 1) = e + 2) (h8 : on e = e + 2) : SG cs on ow a (e + 2) := by
  obtain ⟨n, h2⟩ := h2
  exact ⟨n + 1, Or.inr (Or.inr (Or.inl ⟨e, h1, h2, h3, h4, h5, h6, h7, h8, Seg.nil _ _ _ _ _⟩))⟩
theorem SG.elses {cs on ow : Nat → Nat} {a e g : Nat} (h1 : cs a = 0) (h2 : SG cs on ow (a + 1) e) (h3 : cs e = 1) (h4 : cs (e + 1) = 0) (h5 : SG cs on ow (e + 2) g) (h6 : cs g = 1) (h7 : cs (g + 1) = 38) (h8 : on a = g + 1) (h9 : on (g + 1) = a + 1) (h10 : ow (g + 1) = e + 2) (h11 : on e = g + 2) (h12 : on g = g + 2) : SG cs on ow a (g + 2) := by
  obtain ⟨n, h2⟩ := h2
  obtain ⟨m, h5⟩ := h5
  exact ⟨n + m + 1, Or.inr (Or.inr (Or.inr ⟨e, g, h1, h2.mono (by omega), h3, h4, h5.mono (by omega), h6, h7, h8, h9, h10, h11, h12, Seg.nil _ _ _ _ _⟩))⟩
/-- how deep the braces stand before word k -/
def dp (cs : Nat → Nat) : Nat → Int
  | 0 => 0
  | k + 1 => dp cs k + (if cs k = 0 then 1 else if cs k = 1 then -1 else 0)
theorem dp_o {cs : Nat → Nat} {k : Nat} (h : cs k = 0) : dp cs (k + 1) = dp cs k + 1 := by show dp cs k + _ = _; rw [if_pos h]
theorem dp_c {cs : Nat → Nat} {k : Nat} (h : cs k = 1) : dp cs (k + 1) = dp cs k - 1 := by show dp cs k + _ = _; rw [if_neg (by omega), if_pos h]; rfl
theorem dp_w {cs : Nat → Nat} {k : Nat} (h : 2 ≤ cs k) : dp cs (k + 1) = dp cs k := by show dp cs k + _ = _; rw [if_neg (by omega), if_neg (by omega), Int.add_zero]
theorem Seg.dps {cs on ow : Nat → Nat} {n : Nat} : ∀ {a b : Nat}, Seg cs on ow n a b → dp cs b = dp cs a ∧ ∀ j, a ≤ j → j ≤ b → dp cs a ≤ dp cs j := by
  induction n with
  | zero => intro a b h; cases h; exact ⟨rfl, fun j _ _ => by rw [show j = a by omega]; exact Int.le_refl _⟩
  | succ n ih =>
    intro a b h
    rcases h with h | ⟨h1, h2, h3, h⟩ | ⟨e, h1, h2, h3, h4, h5, h6, h7, h8, h9⟩ | ⟨e, g, h1, h2, h3, h4, h5, h6, h7, h8, h9, h10, h11, h12, h13⟩
    · cases h; exact ⟨rfl, fun j _ _ => by rw [show j = a by omega]; exact Int.le_refl _⟩
    · obtain ⟨i1, i2⟩ := ih h
      have d1 := dp_w h1
      refine ⟨by omega, fun j l1 l2 => ?_⟩
      by_cases z : j = a
      · subst z; omega
      · have := i2 j (by omega) l2; omega
    · obtain ⟨i1, i2⟩ := ih h2
      obtain ⟨i3, i4⟩ := ih h9
      have l := h2.le
      have d1 := dp_o h1
      have d2 := dp_c h3
      have d3 : dp cs (e + 2) = dp cs (e + 1) := dp_w (k := e + 1) (cs := cs) (by omega)
      refine ⟨by omega, fun j l1 l2 => ?_⟩
      by_cases z : j = a
      · subst z; omega
      · by_cases z2 : j ≤ e
        · have := i2 j (by omega) z2; omega
        · by_cases z3 : j = e + 1
          · subst z3; omega
          · have := i4 j (by omega) l2; omega
    · obtain ⟨i1, i2⟩ := ih h2
      obtain ⟨i3, i4⟩ := ih h5
      obtain ⟨i5, i6⟩ := ih h13
      have l := h2.le
      have l' := h5.le
      have d1 := dp_o h1
      have d2 := dp_c h3
      have d3 : dp cs (e + 2) = dp cs (e + 1) + 1 := dp_o h4
      have d4 := dp_c h6
      have d5 : dp cs (g + 2) = dp cs (g + 1) := dp_w (k := g + 1) (cs := cs) (by omega)
      refine ⟨by omega, fun j l1 l2 => ?_⟩
      by_cases z : j = a
      · subst z; omega
      · by_cases z2 : j ≤ e
        · have := i2 j (by omega) z2; omega
        · by_cases z3 : j = e + 1
          · subst z3; omega
          · by_cases z4 : j ≤ g
            · have := i4 j (by omega) z4; omega
            · by_cases z5 : j = g + 1
              · subst z5; omega
              · have := i6 j (by omega) l2; omega
/-- word e closes what word w opens -/
def ism (cs : Nat → Nat) (w e : Nat) : Prop := w < e ∧ cs w = 0 ∧ cs e = 1 ∧ (∀ j, w < j → j ≤ e → dp cs w < dp cs j) ∧ dp cs (e + 1) = dp cs w
theorem ism_of {cs on ow : Nat → Nat} {n w e : Nat} (h1 : cs w = 0) (h2 : Seg cs on ow n (w + 1) e) (h3 : cs e = 1) : ism cs w e := by
  obtain ⟨i1, i2⟩ := h2.dps
  have l := h2.le
  have d1 := dp_o h1
  have d2 := dp_c h3
  exact ⟨by omega, h1, h3, fun j l1 l2 => by have := i2 j (by omega) l2; omega, by omega⟩
/-! the runs: a state is (n, v, t) of the stack -/
abbrev pM : Type := Nat × (Nat → Int) × (Nat → Bool)
/-- whether the upper truth is true -/
def pup (M : pM) : Bool := decide (M.2.1 (M.1 - 1) ≠ 0)
/-- the class's steps: n of them, none of them a fault -/
def CC (pf : Nat → Int → pM → Int × pM) (cs on ow : Nat → Nat) (nm : Nat → Int) (N : Nat) : Nat → Nat → pM → Nat → pM → Prop
  | 0, a, M, b, M' => a = b ∧ M = M'
  | n + 1, a, M, b, M' => a < N ∧ (pf (cs a) (nm a) M).1 = -1 ∧ CC pf cs on ow nm N n (if 37 ≤ cs a ∧ pup M = false then ow a else on a) (pf (cs a) (nm a) M).2 b M'
theorem CC.app {pf : Nat → Int → pM → Int × pM} {cs on ow : Nat → Nat} {nm : Nat → Int} {N n m : Nat} : ∀ {a b c : Nat} {M M1 M2 : pM}, CC pf cs on ow nm N n a M b M1 → CC pf cs on ow nm N m b M1 c M2 → CC pf cs on ow nm N (n + m) a M c M2 := by
  induction n with
  | zero => intro a b c M M1 M2 h g; obtain ⟨h1, h2⟩ := h; subst h1; subst h2; rw [Nat.zero_add]; exact g
  | succ n ih =>
    intro a b c M M1 M2 h g
    rw [show n + 1 + m = (n + m) + 1 by omega]
    exact ⟨h.1, h.2.1, ih h.2.2 g⟩
/-- the class's loop: at most k rounds; (the fault or -1, its place, the stack) -/
def cit (pf : Nat → Int → pM → Int × pM) (cs on ow : Nat → Nat) (nm : Nat → Int) (N : Nat) : Nat → Nat → pM → Int × Nat × pM
  | 0, a, M => (-1, a, M)
  | k + 1, a, M => if a < N then (if (pf (cs a) (nm a) M).1 ≠ -1 then ((pf (cs a) (nm a) M).1, a, M) else cit pf cs on ow nm N k (if 37 ≤ cs a ∧ pup M = false then ow a else on a) (pf (cs a) (nm a) M).2) else (-1, a, M)
theorem CC.cit {pf : Nat → Int → pM → Int × pM} {cs on ow : Nat → Nat} {nm : Nat → Int} {N n r : Nat} : ∀ {a b : Nat} {M M1 : pM}, CC pf cs on ow nm N n a M b M1 → cit pf cs on ow nm N (n + r) a M = cit pf cs on ow nm N r b M1 := by
  induction n with
  | zero => intro a b M M1 h; obtain ⟨h1, h2⟩ := h; subst h1; subst h2; rw [Nat.zero_add]
  | succ n ih =>
    intro a b M M1 h
    rw [show n + 1 + r = (n + r) + 1 by omega]
    show (if a < N then _ else _) = _
    rw [if_pos h.1, if_neg (fun z => z h.2.1)]
    exact ih h.2.2
/-- a step of the reference: from (place, where to go back to, stack) -/
def mstp (pf : Nat → Int → pM → Int × pM) (cs : Nat → Nat) (nm : Nat → Int) (N : Nat) (x y : Nat × List Nat × pM) : Prop :=
  (x.1 < N ∧ (x.2.1.length : Int) + 1 = dp cs x.1) ∧ ((cs x.1 = 1 ∧ x.2.1 = [] ∧ y = (N, [], x.2.2))
    ∨ (cs x.1 = 1 ∧ ∃ r t, x.2.1 = r :: t ∧ y = (r, t, x.2.2))
    ∨ (2 ≤ cs x.1 ∧ cs x.1 < 37 ∧ (pf (cs x.1) (nm x.1) x.2.2).1 = -1 ∧ y = (x.1 + 1, x.2.1, (pf (cs x.1) (nm x.1) x.2.2).2))
    ∨ (∃ e, ism cs x.1 e ∧ cs (e + 1) = 37 ∧ e + 2 < N ∧ (pf 37 0 x.2.2).1 = -1 ∧ y = (if pup x.2.2 = true then (x.1 + 1, (e + 2) :: x.2.1, (pf 37 0 x.2.2).2) else (e + 2, x.2.1, (pf 37 0 x.2.2).2)))
    ∨ (∃ e g, ism cs x.1 e ∧ cs (e + 1) = 0 ∧ ism cs (e + 1) g ∧ g + 2 < N ∧ (pf 37 0 x.2.2).1 = -1 ∧ y = (if pup x.2.2 = true then x.1 + 1 else e + 2, (g + 2) :: x.2.1, (pf 37 0 x.2.2).2)))
def MC (pf : Nat → Int → pM → Int × pM) (cs : Nat → Nat) (nm : Nat → Int) (N : Nat) : Nat → Nat × List Nat × pM → Nat × List Nat × pM → Prop
  | 0, x, y => x = y
  | n + 1, x, y => ∃ z, mstp pf cs nm N x z ∧ MC pf cs nm N n z y
theorem MC.app {pf : Nat → Int → pM → Int × pM} {cs : Nat → Nat} {nm : Nat → Int} {N n m : Nat} : ∀ {x y z : Nat × List Nat × pM}, MC pf cs nm N n x y → MC pf cs nm N m y z → MC pf cs nm N (n + m) x z := by
  induction n with
  | zero => intro x y z h g; cases h; rw [Nat.zero_add]; exact g
  | succ n ih =>
    intro x y z h g
    rw [show n + 1 + m = (n + m) + 1 by omega]
    obtain ⟨u, h1, h2⟩ := h
    exact ⟨u, h1, ih h2 g⟩
/-- the reference's fault c at place p, from here -/
def mflt (pf : Nat → Int → pM → Int × pM) (cs : Nat → Nat) (nm : Nat → Int) (N : Nat) (x : Nat × List Nat × pM) (c : Int) (p : Nat) : Prop :=
  (x.1 < N ∧ (x.2.1.length : Int) + 1 = dp cs x.1) ∧ c ≠ -1 ∧ ((2 ≤ cs x.1 ∧ cs x.1 < 37 ∧ (pf (cs x.1) (nm x.1) x.2.2).1 = c ∧ p = x.1)
    ∨ (∃ e, ism cs x.1 e ∧ cs (e + 1) = 37 ∧ e + 2 < N ∧ (pf 37 0 x.2.2).1 = c ∧ p = e + 1)
    ∨ (∃ e g, ism cs x.1 e ∧ cs (e + 1) = 0 ∧ ism cs (e + 1) g ∧ g + 2 < N ∧ (pf 37 0 x.2.2).1 = c ∧ p = g + 1))
/-- what a stretch of whole items does: both come to its end alike, or both come to the same fault -/
def both (pf : Nat → Int → pM → Int × pM) (cs on ow : Nat → Nat) (nm : Nat → Int) (N L : Nat) (a b : Nat) (st : List Nat) (M : pM) : Prop :=
  (∃ k M', k ≤ L ∧ CC pf cs on ow nm N k a M b M' ∧ ∃ m, MC pf cs nm N m (a, st, M) (b, st, M'))
    ∨ ∃ k p M1 x c m, k < L ∧ CC pf cs on ow nm N k a M p M1 ∧ p < N ∧ (pf (cs p) (nm p) M1).1 = c ∧ MC pf cs nm N m (a, st, M) x ∧ mflt pf cs nm N x c p
theorem both_then {pf : Nat → Int → pM → Int × pM} {cs on ow : Nat → Nat} {nm : Nat → Int} {N L L' k m a a' b : Nat} {st st' : List Nat} {M M' : pM} (h1 : CC pf cs on ow nm N k a M a' M') (h2 : MC pf cs nm N m (a, st, M) (a', st', M')) (hL : k + L' ≤ L) (hst : st = st')
    (h3 : both pf cs on ow nm N L' a' b st' M') : both pf cs on ow nm N L a b st M := by
  subst hst
  rcases h3 with ⟨k1, M1, l1, c1, m1, r1⟩ | ⟨k1, p, M1, x, c, m1, l1, c1, l2, e1, r1, f1⟩
  · exact Or.inl ⟨k + k1, M1, by omega, h1.app c1, m + m1, h2.app r1⟩
  · exact Or.inr ⟨k + k1, p, M1, x, c, m + m1, by omega, h1.app c1, l2, e1, h2.app r1, f1⟩
/-- the same with a deeper stack, where the stretch comes back -/
theorem both_in {pf : Nat → Int → pM → Int × pM} {cs on ow : Nat → Nat} {nm : Nat → Int} {N L L1 L2 k m a a1 b1 a2 b : Nat} {st st1 : List Nat} {M M' : pM} (h1 : CC pf cs on ow nm N k a M a1 M') (h2 : MC pf cs nm N m (a, st, M) (a1, st1, M'))
    (h3 : both pf cs on ow nm N L1 a1 b1 st1 M') (h4 : ∀ M1, ∃ k' m', k' ≤ 1 ∧ CC pf cs on ow nm N k' b1 M1 a2 M1 ∧ MC pf cs nm N m' (b1, st1, M1) (a2, st, M1)) (h5 : ∀ M1, both pf cs on ow nm N L2 a2 b st M1) (hL : k + L1 + 1 + L2 ≤ L) : both pf cs on ow nm N L a b st M := by
  rcases h3 with ⟨k1, M1, l1, c1, m1, r1⟩ | ⟨k1, p, M1, x, c, m1, l1, c1, l2, e1, r1, f1⟩
  · obtain ⟨k2, m2, l2, c2, r2⟩ := h4 M1
    exact both_then ((h1.app c1).app c2) ((h2.app r1).app r2) (by omega) rfl (h5 M1)
  · exact Or.inr ⟨k + k1, p, M1, x, c, m + m1, by omega, h1.app c1, l2, e1, h2.app r1, f1⟩
theorem seg_both {pf : Nat → Int → pM → Int × pM} {cs on ow : Nat → Nat} {nm : Nat → Int} {N : Nat} (p0 : ∀ x M, pf 0 x M = (-1, M)) (p1 : ∀ x M, pf 1 x M = (-1, M)) (p37 : ∀ x M, pf 37 x M = pf 37 0 M) (p38 : ∀ x M, pf 38 x M = pf 37 0 M) {n : Nat} :
    ∀ {a b : Nat} (st : List Nat) (M : pM), Seg cs on ow n a b → b < N → (st.length : Int) + 1 = dp cs a → both pf cs on ow nm N (b - a) a b st M := by
  induction n with
  | zero => intro a b st M h _ _; cases h; exact Or.inl ⟨0, M, Nat.zero_le _, ⟨rfl, rfl⟩, 0, rfl⟩
  | succ n ih =>
    intro a b st M h lN hd
    rcases h with h | ⟨h1, h2, h3, h⟩ | ⟨e, h1, h2, h3, h4, h5, h6, h7, h8, h9⟩ | ⟨e, g, h1, h2, h3, h4, h5, h6, h7, h8, h9, h10, h11, h12, h13⟩
    · cases h; exact Or.inl ⟨0, M, Nat.zero_le _, ⟨rfl, rfl⟩, 0, rfl⟩
    · have l := h.le
      by_cases z : (pf (cs a) (nm a) M).1 = -1
      · have c1 : CC pf cs on ow nm N 1 a M (a + 1) (pf (cs a) (nm a) M).2 := ⟨by omega, z, by rw [if_neg (by omega)]; exact h3, rfl⟩
        have r1 : MC pf cs nm N 1 (a, st, M) (a + 1, st, (pf (cs a) (nm a) M).2) := ⟨_, ⟨⟨by show a < N; omega, hd⟩, Or.inr (Or.inr (Or.inl ⟨h1, h2, z, rfl⟩))⟩, rfl⟩
        exact both_then c1 r1 (by omega) rfl (ih st _ h lN (by rw [dp_w h1]; exact hd))
      · exact Or.inr ⟨0, a, M, (a, st, M), _, 0, by omega, ⟨rfl, rfl⟩, by omega, rfl, rfl, ⟨⟨by show a < N; omega, hd⟩, z, Or.inl ⟨h1, h2, rfl, rfl⟩⟩⟩
    · have l := h2.le
      have l' := h9.le
      have im := ism_of h1 h2 h3
      have t1 := dp_o h1
      have t2 := h2.dps.1
      have t3 := dp_c h3
      have t4 : dp cs (e + 2) = dp cs (e + 1) := dp_w (k := e + 1) (cs := cs) (by omega)
      have dE : (st.length : Int) + 1 = dp cs (e + 2) := by omega
      have dI : (((e + 2) :: st).length : Int) + 1 = dp cs (a + 1) := by rw [List.length_cons]; omega
      have dI' : (((e + 2) :: st).length : Int) + 1 = dp cs e := by rw [t2]; exact dI
      have co : CC pf cs on ow nm N 1 a M (e + 1) M := ⟨by omega, by rw [h1, p0], by rw [if_neg (by omega)]; exact h5, by rw [h1, p0]⟩
      by_cases z : (pf 37 0 M).1 = -1
      · have z' : (pf (cs (e + 1)) (nm (e + 1)) M) = pf 37 0 M := by rw [h4, p37]
        by_cases u : pup M = true
        · have c1 : CC pf cs on ow nm N 1 (e + 1) M (a + 1) (pf 37 0 M).2 := ⟨by omega, by rw [z']; exact z, by rw [if_neg (by rw [u]; simp)]; exact h6, by rw [z']⟩
          have r1 : MC pf cs nm N 1 (a, st, M) (a + 1, (e + 2) :: st, (pf 37 0 M).2) := ⟨_, ⟨⟨by show a < N; omega, hd⟩, Or.inr (Or.inr (Or.inr (Or.inl ⟨e, im, h4, by omega, z, rfl⟩)))⟩, by show (if pup M = true then _ else _) = _; rw [if_pos u]⟩
          refine both_in (co.app c1) r1 (ih _ _ h2 (by omega) dI) (fun M1 => ⟨1, 1, Nat.le_refl _, ⟨by omega, by rw [h3, p1], by rw [if_neg (by omega)]; exact h8, by rw [h3, p1]⟩, ⟨_, ⟨⟨by show e < N; omega, dI'⟩, Or.inr (Or.inl ⟨h3, _, _, rfl, rfl⟩)⟩, rfl⟩⟩) (fun M1 => ih st M1 h9 lN dE) (by omega)
        · have c1 : CC pf cs on ow nm N 1 (e + 1) M (e + 2) (pf 37 0 M).2 := ⟨by omega, by rw [z']; exact z, by rw [if_pos ⟨by omega, Bool.eq_false_iff.mpr u⟩]; exact h7, by rw [z']⟩
          have r1 : MC pf cs nm N 1 (a, st, M) (e + 2, st, (pf 37 0 M).2) := ⟨_, ⟨⟨by show a < N; omega, hd⟩, Or.inr (Or.inr (Or.inr (Or.inl ⟨e, im, h4, by omega, z, rfl⟩)))⟩, by show (if pup M = true then _ else _) = _; rw [if_neg u]⟩
          exact both_then (co.app c1) r1 (by omega) rfl (ih st _ h9 lN dE)
      · exact Or.inr ⟨1, e + 1, M, (a, st, M), _, 0, by omega, co, by omega, by rw [h4, p37], rfl, ⟨⟨by show a < N; omega, hd⟩, z, Or.inr (Or.inl ⟨e, im, h4, by omega, rfl, rfl⟩)⟩⟩
    · have l := h2.le
      have l' := h5.le
      have l'' := h13.le
      have im := ism_of h1 h2 h3
      have im' := ism_of (w := e + 1) h4 h5 h6
      have t1 := dp_o h1
      have t2 := h2.dps.1
      have t3 := dp_c h3
      have t4 : dp cs (e + 2) = dp cs (e + 1) + 1 := dp_o h4
      have t5 := h5.dps.1
      have t6 := dp_c h6
      have t7 : dp cs (g + 2) = dp cs (g + 1) := dp_w (k := g + 1) (cs := cs) (by omega)
      have dE : (st.length : Int) + 1 = dp cs (g + 2) := by omega
      have dI : (((g + 2) :: st).length : Int) + 1 = dp cs (a + 1) := by rw [List.length_cons]; omega
      have dI' : (((g + 2) :: st).length : Int) + 1 = dp cs e := by rw [t2]; exact dI
      have dJ : (((g + 2) :: st).length : Int) + 1 = dp cs (e + 2) := by rw [List.length_cons]; omega
      have dJ' : (((g + 2) :: st).length : Int) + 1 = dp cs g := by rw [t5]; exact dJ
      have co : CC pf cs on ow nm N 1 a M (g + 1) M := ⟨by omega, by rw [h1, p0], by rw [if_neg (by omega)]; exact h8, by rw [h1, p0]⟩
      by_cases z : (pf 37 0 M).1 = -1
      · have z' : (pf (cs (g + 1)) (nm (g + 1)) M) = pf 37 0 M := by rw [h7, p38]
        by_cases u : pup M = true
        · have c1 : CC pf cs on ow nm N 1 (g + 1) M (a + 1) (pf 37 0 M).2 := ⟨by omega, by rw [z']; exact z, by rw [if_neg (by rw [u]; simp)]; exact h9, by rw [z']⟩
          have r1 : MC pf cs nm N 1 (a, st, M) (a + 1, (g + 2) :: st, (pf 37 0 M).2) := ⟨_, ⟨⟨by show a < N; omega, hd⟩, Or.inr (Or.inr (Or.inr (Or.inr ⟨e, g, im, h4, im', by omega, z, rfl⟩)))⟩, by show (if pup M = true then a + 1 else e + 2, _, _) = _; rw [if_pos u]⟩
          refine both_in (co.app c1) r1 (ih _ _ h2 (by omega) dI) (fun M1 => ⟨1, 1, Nat.le_refl _, ⟨by omega, by rw [h3, p1], by rw [if_neg (by omega)]; exact h11, by rw [h3, p1]⟩, ⟨_, ⟨⟨by show e < N; omega, dI'⟩, Or.inr (Or.inl ⟨h3, _, _, rfl, rfl⟩)⟩, rfl⟩⟩) (fun M1 => ih st M1 h13 lN dE) (by omega)
        · have c1 : CC pf cs on ow nm N 1 (g + 1) M (e + 2) (pf 37 0 M).2 := ⟨by omega, by rw [z']; exact z, by rw [if_pos ⟨by omega, Bool.eq_false_iff.mpr u⟩]; exact h10, by rw [z']⟩
          have r1 : MC pf cs nm N 1 (a, st, M) (e + 2, (g + 2) :: st, (pf 37 0 M).2) := ⟨_, ⟨⟨by show a < N; omega, hd⟩, Or.inr (Or.inr (Or.inr (Or.inr ⟨e, g, im, h4, im', by omega, z, rfl⟩)))⟩, by show (if pup M = true then a + 1 else e + 2, _, _) = _; rw [if_neg u]⟩
          refine both_in (co.app c1) r1 (ih _ _ h5 (by omega) dJ) (fun M1 => ⟨1, 1, Nat.le_refl _, ⟨by omega, by rw [h6, p1], by rw [if_neg (by omega)]; exact h12, by rw [h6, p1]⟩, ⟨_, ⟨⟨by show g < N; omega, dJ'⟩, Or.inr (Or.inl ⟨h6, _, _, rfl, rfl⟩)⟩, rfl⟩⟩) (fun M1 => ih st M1 h13 lN dE) (by omega)
      · exact Or.inr ⟨1, g + 1, M, (a, st, M), _, 0, by omega, co, by omega, by rw [h7, p38], rfl, ⟨⟨by show a < N; omega, hd⟩, z, Or.inr (Or.inr ⟨e, g, im, h4, im', by omega, rfl, rfl⟩)⟩⟩
/-- a whole program -/
def prg (cs on ow : Nat → Nat) (N : Nat) : Prop := 2 ≤ N ∧ cs 0 = 0 ∧ on 0 = 1 ∧ SG cs on ow 1 (N - 1) ∧ cs (N - 1) = 1 ∧ on (N - 1) = N
/-- the class's loop and the reference's come to the same -/
theorem prg_run {pf : Nat → Int → pM → Int × pM} {cs on ow : Nat → Nat} {nm : Nat → Int} {N : Nat} (p0 : ∀ x M, pf 0 x M = (-1, M)) (p1 : ∀ x M, pf 1 x M = (-1, M)) (p37 : ∀ x M, pf 37 x M = pf 37 0 M) (p38 : ∀ x M, pf 38 x M = pf 37 0 M) (h : prg cs on ow N) (M : pM) :
    (∃ M' m, cit pf cs on ow nm N N 0 M = (-1, N, M') ∧ MC pf cs nm N m (1, [], M) (N, [], M'))
    ∨ ∃ c p M1 x m, c ≠ -1 ∧ p < N ∧ cit pf cs on ow nm N N 0 M = (c, p, M1) ∧ MC pf cs nm N m (1, [], M) x ∧ mflt pf cs nm N x c p := by
  obtain ⟨h1, h2, h3, ⟨n, h4⟩, h5, h6⟩ := h
  have c0 : CC pf cs on ow nm N 1 0 M 1 M := ⟨by omega, by rw [h2, p0], by rw [if_neg (by omega)]; exact h3, by rw [h2, p0]⟩
  rcases seg_both (nm := nm) p0 p1 p37 p38 [] M h4 (by omega : N - 1 < N) (by show (0 : Int) + 1 = dp cs 0 + _; rw [if_pos h2]; rfl) with ⟨k, M', l, c1, m, r1⟩ | ⟨k, p, M1, x, c, m, l, c1, l2, e1, r1, f1⟩
  · have c2 : CC pf cs on ow nm N 1 (N - 1) M' N M' := ⟨by omega, by rw [h5, p1], by rw [if_neg (by omega)]; exact h6, by rw [h5, p1]⟩
    have r2 : MC pf cs nm N 1 (N - 1, [], M') (N, [], M') := ⟨_, ⟨⟨by show N - 1 < N; omega, by rw [h4.dps.1]; show (0 : Int) + 1 = dp cs 0 + _; rw [if_pos h2]; rfl⟩, Or.inl ⟨h5, rfl, rfl⟩⟩, rfl⟩
    refine Or.inl ⟨M', m + 1, ?_, r1.app r2⟩
    have e := ((c0.app c1).app c2).cit (r := N - (1 + k + 1))
    rw [show 1 + k + 1 + (N - (1 + k + 1)) = N by omega] at e
    rw [e]
    cases N - (1 + k + 1) with
    | zero => rfl
    | succ j => show (if N < N then _ else _) = _; rw [if_neg (Nat.lt_irrefl N)]
  · refine Or.inr ⟨c, p, M1, x, m, f1.2.1, l2, ?_, r1, f1⟩
    have e := (c0.app c1).cit (r := N - (1 + k))
    rw [show 1 + k + (N - (1 + k)) = N by omega] at e
    rw [e, show N - (1 + k) = (N - (1 + k) - 1) + 1 by omega]
    show (if p < N then _ else _) = _
    rw [if_pos l2, e1, if_pos f1.2.1]
