/-! THE RELATION of functions: T is the rest of the heap behind the reference, B f is where f's cells begin -/
theorem ms_t (M : x_M) (T : List va_E) (k : Nat) : (x_ms M ++ T)[20 + k]? = T[k]? := by
  rw [List.getElem?_append_right (show (x_ms M).length ≤ 20 + k from Nat.le_add_right 20 k)]
  show T[20 + k - 20]? = _
  rw [Nat.add_sub_cancel_left]
theorem ms_l (M : x_M) (T : List va_E) : (x_ms M ++ T).length = 20 + T.length := List.length_append
theorem ms_s (M : x_M) (T : List va_E) (k : Nat) (c : va_E) : (x_ms M ++ T).set (20 + k) c = x_ms M ++ T.set k c := by
  rw [List.set_append_right _ _ (show (x_ms M).length ≤ 20 + k from Nat.le_add_right 20 k)]
  show x_ms M ++ T.set (20 + k - 20) c = _
  rw [Nat.add_sub_cancel_left]
theorem sT_ms (M : x_M) (T : List va_E) (x : Nat) (W R : Nat → Int32) (C : Nat → Int64) : sT (x_ms M ++ T) (20 + x) W R C = x_ms M ++ sT T x W R C := by
  unfold sT
  rw [ms_s, show 20 + x + 1 = 20 + (x + 1) from rfl, ms_s, show 20 + x + 2 = 20 + (x + 2) from rfl, ms_s]
theorem DQ.ms {T : List va_E} {b L : Nat} {q : Nat → Int} (h : DQ T b q L) (M : x_M) : DQ (x_ms M ++ T) (20 + b) q L := by
  obtain ⟨a, D, b1, c⟩ := h
  exact ⟨a, D, (ms_t M T b).trans b1, c⟩
def FNs (M : x_M) (T : List va_E) (f b i o : Nat) : Prop := ∃ (q : Nat → Int) (wd N : Nat) (Bt W R : Nat → Int32) (C : Nat → Int64), (T[b + 1]? = some (sOb (153 + (20 + (b + 2))) (20 + (b + 3)) (153 + (20 + b)) i o wd) ∧ DQ T b q (5 * i + 1 + 4 * o) ∧ T[b + 2]? = some (.inl (1, N, .inl Bt))) ∧ (T[b + 3]? = some (.inl (0, 3, .inl W)) ∧ T[b + 3 + 1]? = some (.inl (0, 3, .inl R)) ∧ T[b + 3 + 2]? = some (.inl (2, 8, .inr (.inl C)))) ∧ (zTl q i o wd ∧ q (5 * i) = wd ∧ (∀ k, k < i → q (5 * k) ≤ q (5 * k + 1)) ∧ (∀ k, k < o → q (5 * i + 1 + 4 * k) ≤ q (5 * i + 1 + 4 * k + 1)) ∧ N ≤ 8192 ∧ zsz q i * o * wd ≤ ((8 * N : Nat) : Int)) ∧ M.2.1 4 f = 0 ∧ FQ M f q (5 * i + 1 + 4 * o) ∧ ∀ j, j < N → M.2.1 9 (8192 * f + j) = Bt j
def FNp (M : x_M) (T : List va_E) (f b o : Nat) : Prop := ∃ q : Nat → Int, (T[b + 1]? = some (.inr (6, [.int (nI 1), .int (nI o), .ref (153 + (20 + b))])) ∧ DQ T b q (3 + 2 * o)) ∧ (q 0 ≤ q 1 ∧ 0 ≤ q 2 ∧ q 2 ≤ 16) ∧ M.2.1 4 f = 2 ∧ FQ M f q (3 + 2 * o)
def FNz (M : x_M) (T : List va_E) (B : Nat → Nat) (f b o : Nat) : Prop := ∃ (q : Nat → Int) (K : Nat) (F : Nat → Option Nat), (T[b + 1]? = some (.inr (7, [.ref (153 + (20 + (b + 2))), .int (nI 1), .int (nI o), .ref (153 + (20 + b))])) ∧ DQ T b q (4 * K + 2) ∧ T[b + 2]? = some (.inl (4, K, .inr (.inr (.inr (.inr F)))))) ∧ ((1 ≤ K ∧ K ≤ 8) ∧ q 2 = K ∧ q 0 ≤ q 1) ∧ M.2.1 4 f = 3 ∧ FQ M f q (4 * K + 2) ∧ ∀ j, j < K → ∃ p : Nat, p < f ∧ q (3 + j) = p ∧ F j = some (153 + (20 + (B p + 1))) ∧ M.2.1 5 p = nI 1 ∧ M.2.1 6 p = nI o
def FNg (M : x_M) (T : List va_E) (f b i o : Nat) : Prop := ∃ (q : Nat → Int) (Q P0 : pP) (k0 n : Nat) (Wf : Nat → Option Nat) (A B C : Nat → Int32), (T[b + 1]? = some (.inr (8, [.int (nI (qn Q)), .ref (153 + (20 + (b + 2))), .ref (153 + (20 + (b + 3))), .ref (153 + (20 + (b + 4))), .ref (153 + (20 + (b + 5))), .ref 150, .int (nI i), .int (nI o), .ref (153 + (20 + b))])) ∧ DQ T b q (2 * (i + o)) ∧ T[b + 2]? = some (.inl (5, qn Q, .inr (.inr (.inr (.inr Wf))))) ∧ T[b + 3]? = some (.inl (0, qn Q, .inl A)) ∧ T[b + 4]? = some (.inl (0, qn Q, .inl B)) ∧ T[b + 5]? = some (.inl (0, qn Q, .inl C))) ∧ (∀ j, j < qn Q → Wf j = some (qc Q j) ∧ A j = iZ (qm Q j) ∧ B j = nI (qt Q j) ∧ C j = nI (qe Q j)) ∧ (∀ k, k < i + o → q (2 * k) ≤ q (2 * k + 1)) ∧ M.2.1 4 f = 4 ∧ FQ M f q (2 * (i + o)) ∧ (M.2.1 8 f = nI n ∧ n ≤ 8192) ∧ (qn P0 = 0 ∧ qd P0 = 0) ∧ prs (sgM M f) n 401 (ws (sgM M f) n 0) P0 = (-1, k0, Q)
def FK (M : x_M) (T : List va_E) (B : Nat → Nat) (f i o : Nat) : Prop := (FNs M T f (B f) i o ∧ B f + 6 ≤ B (f + 1)) ∨ ((i = 1 ∧ FNp M T f (B f) o) ∧ B f + 2 ≤ B (f + 1)) ∨ ((i = 1 ∧ FNz M T B f (B f) o) ∧ B f + 3 ≤ B (f + 1)) ∨ (FNg M T f (B f) i o ∧ B f + 6 ≤ B (f + 1))
def FN (S : x_S) (M : x_M) (T : List va_E) (B : Nat → Nat) (f : Nat) : Prop := ∃ i o : Nat, ((1 ≤ i ∧ i ≤ 4) ∧ 1 ≤ o ∧ o ≤ 4) ∧ S.2.2.1 0 f = some (153 + (20 + (B f + 1))) ∧ (M.2.1 5 f = nI i ∧ M.2.1 6 f = nI o) ∧ FK M T B f i o
def FA (S : x_S) (M : x_M) (T : List va_E) (B : Nat → Nat) (nf : Nat) : Prop := nf ≤ 24 ∧ B nf ≤ T.length ∧ ∀ f, f < nf → FN S M T B f
theorem FK.step {M : x_M} {T : List va_E} {B : Nat → Nat} {f i o : Nat} (h : FK M T B f i o) : B f + 2 ≤ B (f + 1) := by
  rcases h with h | h | h | h
  · have := h.2; omega
  · exact h.2
  · have := h.2; omega
  · have := h.2; omega
theorem FA.mono {S : x_S} {M : x_M} {T : List va_E} {B : Nat → Nat} {nf : Nat} (h : FA S M T B nf) : ∀ {g f : Nat}, f ≤ g → g ≤ nf → B f ≤ B g := by
  intro g
  induction g with
  | zero => intro f h1 _; rw [show f = 0 by omega]; exact Nat.le_refl _
  | succ g ih =>
    intro f h1 h2
    by_cases z : f = g + 1
    · rw [z]; exact Nat.le_refl _
    · obtain ⟨i, o, -, -, -, k⟩ := h.2.2 g (by omega)
      have := ih (f := f) (by omega) (by omega)
      have := k.step
      omega
theorem FA.S {S S' : x_S} {M : x_M} {T : List va_E} {B : Nat → Nat} {nf : Nat} (h : FA S M T B nf) (e : S'.2.2.1 0 = S.2.2.1 0) : FA S' M T B nf := by
  refine ⟨h.1, h.2.1, fun f hf => ?_⟩
  obtain ⟨i, o, a, b, c⟩ := h.2.2 f hf
  exact ⟨i, o, a, by rw [e]; exact b, c⟩
/-- it looks at its own cells alone -/
theorem DQ.tr {T T' : List va_E} {b L : Nat} {q : Nat → Int} (h : DQ T b q L) (e : T'[b]? = T[b]?) : DQ T' b q L := by
  obtain ⟨a, D, b1, c⟩ := h
  exact ⟨a, D, e.trans b1, c⟩
theorem FK.tr {M : x_M} {T T' : List va_E} {B : Nat → Nat} {f i o : Nat} (h : FK M T B f i o) (e : ∀ k, B f ≤ k → k < B (f + 1) → T'[k]? = T[k]?) : FK M T' B f i o := by
  rcases h with ⟨⟨q, wd, N, Bt, W, R, C, ⟨a1, a2, a3⟩, ⟨b1, b2, b3⟩, c⟩, d⟩ | ⟨⟨hi, q, ⟨a1, a2⟩, c⟩, d⟩ | ⟨⟨hi, q, K, F, ⟨a1, a2, a3⟩, c⟩, d⟩ | ⟨⟨q, Q, P0, k0, n, Wf, A, B', C, ⟨a1, a2, a3, a4, a5, a6⟩, c⟩, d⟩
  · exact Or.inl ⟨⟨q, wd, N, Bt, W, R, C, ⟨(e _ (by omega) (by omega)).trans a1, a2.tr (e _ (by omega) (by omega)), (e _ (by omega) (by omega)).trans a3⟩, ⟨(e _ (by omega) (by omega)).trans b1, (e _ (by omega) (by omega)).trans b2, (e _ (by omega) (by omega)).trans b3⟩, c⟩, d⟩
  · exact Or.inr (Or.inl ⟨⟨hi, q, ⟨(e _ (by omega) (by omega)).trans a1, a2.tr (e _ (by omega) (by omega))⟩, c⟩, d⟩)
  · exact Or.inr (Or.inr (Or.inl ⟨⟨hi, q, K, F, ⟨(e _ (by omega) (by omega)).trans a1, a2.tr (e _ (by omega) (by omega)), (e _ (by omega) (by omega)).trans a3⟩, c⟩, d⟩))
  · exact Or.inr (Or.inr (Or.inr ⟨⟨q, Q, P0, k0, n, Wf, A, B', C, ⟨(e _ (by omega) (by omega)).trans a1, a2.tr (e _ (by omega) (by omega)), (e _ (by omega) (by omega)).trans a3, (e _ (by omega) (by omega)).trans a4, (e _ (by omega) (by omega)).trans a5, (e _ (by omega) (by omega)).trans a6⟩, c⟩, d⟩))
/-- a table of samples has been used -/
theorem FA.sT {S : x_S} {M : x_M} {T : List va_E} {B : Nat → Nat} {nf g i o : Nat} (h : FA S M T B nf) (hg : g < nf) (hs : FNs M T g (B g) i o) (h6 : B g + 6 ≤ B (g + 1)) (hb : ((1 ≤ i ∧ i ≤ 4) ∧ 1 ≤ o ∧ o ≤ 4) ∧ S.2.2.1 0 g = some (153 + (20 + (B g + 1))) ∧ (M.2.1 5 g = nI i ∧ M.2.1 6 g = nI o)) (W R : Nat → Int32) (C : Nat → Int64) : FA S M (sT T (B g + 3) W R C) B nf := by
  refine ⟨h.1, by rw [sT_l]; exact h.2.1, fun f hf => ?_⟩
  by_cases z : f = g
  · subst z
    obtain ⟨q, wd, N, Bt, W0, R0, C0, ⟨a1, a2, a3⟩, ⟨b1, b2, b3⟩, c⟩ := hs
    have hl := lt_of b3
    exact ⟨i, o, hb.1, hb.2.1, hb.2.2, Or.inl ⟨⟨q, wd, N, Bt, W, R, C, ⟨(sT_o (by omega)).trans a1, a2.tr (sT_o (by omega)), (sT_o (by omega)).trans a3⟩, ⟨sT_w hl, sT_r hl, sT_c hl⟩, c⟩, h6⟩⟩
  · obtain ⟨i', o', a, b, c, k⟩ := h.2.2 f hf
    refine ⟨i', o', a, b, c, k.tr (fun k h1 h2 => sT_o ?_)⟩
    rcases Nat.lt_or_gt_of_ne z with y | y
    · have := h.mono (f := f + 1) (g := g) (by omega) (by omega)
      omega
    · have := h.mono (f := g + 1) (g := f) (by omega) (by omega)
      omega
/-- more cells behind -/
theorem FA.app {S : x_S} {M : x_M} {T : List va_E} {B : Nat → Nat} {nf : Nat} (h : FA S M T B nf) (t : List va_E) : FA S M (T ++ t) B nf := by
  refine ⟨h.1, by rw [List.length_append]; have := h.2.1; omega, fun f hf => ?_⟩
  obtain ⟨i, o, a, b, c, k⟩ := h.2.2 f hf
  refine ⟨i, o, a, b, c, k.tr (fun k h1 h2 => List.getElem?_append_left ?_)⟩
  have := h.mono (f := f + 1) (g := nf) (by omega) (Nat.le_refl _)
  have := h.2.1
  omega
/-- of the reference, it looks at its own rows alone -/
def MR (M M' : x_M) (f : Nat) : Prop := (∀ p, p ≤ f → M'.2.1 4 p = M.2.1 4 p ∧ M'.2.1 5 p = M.2.1 5 p ∧ M'.2.1 6 p = M.2.1 6 p ∧ M'.2.1 8 p = M.2.1 8 p) ∧ (∀ k, k < 96 * (f + 1) → M'.2.1 7 k = M.2.1 7 k) ∧ ∀ k, k < 8192 * (f + 1) → M'.2.1 9 k = M.2.1 9 k
theorem FQ.tr {M M' : x_M} {f L : Nat} {q : Nat → Int} (h : FQ M f q L) (e : MR M M' f) : FQ M' f q L := ⟨h.1, h.2.1, fun k hk => by
  have := h.2.1
  rw [e.2.1 _ (by omega)]; exact h.2.2 k hk⟩
theorem FK.M {M M' : x_M} {T : List va_E} {B : Nat → Nat} {f i o : Nat} (h : FK M T B f i o) (e : MR M M' f) : FK M' T B f i o := by
  have e4 := (e.1 f (Nat.le_refl _)).1
  rcases h with ⟨⟨q, wd, N, Bt, W, R, C, a, b, c, d1, d2, d3⟩, d⟩ | ⟨⟨hi, q, a, c, d1, d2⟩, d⟩ | ⟨⟨hi, q, K, F, a, c, d1, d2, d3⟩, d⟩ | ⟨⟨q, Q, P0, k0, n, Wf, A, B', C, a, b, c, d1, d2, d3, d4, d5⟩, d⟩
  · exact Or.inl ⟨⟨q, wd, N, Bt, W, R, C, a, b, c, e4.trans d1, d2.tr e, fun j hj => by
      have := c.2.2.2.2.1
      rw [e.2.2 _ (by omega)]; exact d3 j hj⟩, d⟩
  · exact Or.inr (Or.inl ⟨⟨hi, q, a, c, e4.trans d1, d2.tr e⟩, d⟩)
  · exact Or.inr (Or.inr (Or.inl ⟨⟨hi, q, K, F, a, c, e4.trans d1, d2.tr e, fun j hj => by
      obtain ⟨p, p1, p2, p3, p4, p5⟩ := d3 j hj
      have e5 := e.1 p (by omega)
      exact ⟨p, p1, p2, p3, e5.2.1.trans p4, e5.2.2.1.trans p5⟩⟩, d⟩))
  · exact Or.inr (Or.inr (Or.inr ⟨⟨q, Q, P0, k0, n, Wf, A, B', C, a, b, c, e4.trans d1, d2.tr e, ⟨(e.1 f (Nat.le_refl _)).2.2.2.trans d3.1, d3.2⟩, d4, by
      rw [prs_w (A := sgM M' f) (B := sgM M f) (fun j hj => congrArg sgn (e.2.2 _ (by have := d3.2; omega)))]; exact d5⟩, d⟩))
theorem FA.M {S : x_S} {M M' : x_M} {T : List va_E} {B : Nat → Nat} {nf : Nat} (h : FA S M T B nf) (e : ∀ f, f < nf → MR M M' f) : FA S M' T B nf := by
  refine ⟨h.1, h.2.1, fun f hf => ?_⟩
  obtain ⟨i, o, a, b, c, k⟩ := h.2.2 f hf
  have e5 := (e f hf).1 f (Nat.le_refl _)
  exact ⟨i, o, a, b, ⟨e5.2.1.trans c.1, e5.2.2.1.trans c.2⟩, k.M (e f hf)⟩
/-- another B that is the same below -/
theorem FK.B {M : x_M} {T : List va_E} {B B' : Nat → Nat} {f i o : Nat} (h : FK M T B f i o) (e : ∀ p, p ≤ f → B' p = B p) (e1 : B (f + 1) ≤ B' (f + 1)) : FK M T B' f i o := by
  have ef := e f (Nat.le_refl _)
  unfold FK
  rw [ef]
  rcases h with ⟨a, d⟩ | ⟨a, d⟩ | ⟨⟨hi, q, K, F, a, c, d1, d2, d3⟩, d⟩ | ⟨a, d⟩
  · exact Or.inl ⟨a, by omega⟩
  · exact Or.inr (Or.inl ⟨a, by omega⟩)
  · exact Or.inr (Or.inr (Or.inl ⟨⟨hi, q, K, F, a, c, d1, d2, fun j hj => by
      obtain ⟨p, p1, p2, p3, p4⟩ := d3 j hj
      exact ⟨p, p1, p2, by rw [e p (by omega)]; exact p3, p4⟩⟩, by omega⟩))
  · exact Or.inr (Or.inr (Or.inr ⟨a, by omega⟩))
