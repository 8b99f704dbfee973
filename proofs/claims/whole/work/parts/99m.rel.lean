/-! THE RELATION of the two states -/
def RS (S : x_S) (M : x_M) (r n nf : Nat) : Prop := (r ≤ 8192 ∧ S.1 0 = nI r ∧ M.1 1 = nI r) ∧ (n ≤ 96 ∧ S.1 2 = nI n ∧ M.1 2 = nI n) ∧ (S.1 1 = nI nf ∧ M.1 5 = nI nf) ∧ ((∀ j, j < r → S.2.1 0 j = M.2.1 0 j) ∧ ∀ j, (S.2.1 0 j).toInt8.toInt32 = S.2.1 0 j) ∧ (S.2.1 1 = M.2.1 1 ∧ ∀ j, zN (S.2.1 1 j).toInt) ∧ (S.2.1 2 = M.2.1 2 ∧ ∀ j, zN (S.2.1 2 j).toInt) ∧ (S.1 3 = M.1 3 ∧ S.1 4 = M.1 4) ∧ ∀ j, j < 4 → S.2.1 3 j = M.2.1 3 j
/-- the law's own array, the first cell behind the reference -/
def oC (w : Nat → Int64) : va_E := .inl (2, 1, .inr (.inl w))
def OT (T : List va_E) (B : Nat → Nat) : Prop := 1 ≤ B 0 ∧ (∃ w, T[0]? = some (oC w)) ∧ NF T
def RX (t : Int32) (h : List va_E) : Prop := ∃ S M T B r n nf, h = x_hM S M T ∧ M.1 0 = t ∧ RS S M r n nf ∧ FA S M T B nf ∧ OT T B
theorem FA.M' {S : x_S} {M M' : x_M} {T : List va_E} {B : Nat → Nat} {nf : Nat} (h : FA S M T B nf) (e : ∀ k, 4 ≤ k → k < 10 → M'.2.1 k = M.2.1 k) : FA S M' T B nf :=
  h.M (fun f _ => ⟨fun p _ => ⟨by rw [e 4 (by decide) (by decide)], by rw [e 5 (by decide) (by decide)], by rw [e 6 (by decide) (by decide)], by rw [e 8 (by decide) (by decide)]⟩, fun k _ => by rw [e 7 (by decide) (by decide)], fun k _ => by rw [e 9 (by decide) (by decide)]⟩)
theorem FA.out {S : x_S} {M : x_M} {T : List va_E} {B : Nat → Nat} {nf : Nat} (h : FA S M T B nf) (h0 : 1 ≤ B 0) (c : va_E) : FA S M (T.set 0 c) B nf := by
  refine ⟨h.1, by rw [List.length_set]; exact h.2.1, fun f hf => ?_⟩
  obtain ⟨i, o, a, b, c, k⟩ := h.2.2 f hf
  refine ⟨i, o, a, b, c, k.tr (fun k h1 h2 => List.getElem?_set_ne ?_)⟩
  have := h.mono (f := 0) (g := f) (Nat.zero_le _) (by omega)
  omega
theorem OT.set {T : List va_E} {B : Nat → Nat} (h : OT T B) (w : Nat → Int64) : OT (T.set 0 (oC w)) B := by
  obtain ⟨h0, ⟨w0, e⟩, hn⟩ := h
  exact ⟨h0, ⟨w, by rw [List.getElem?_set_self (lt_of e)]⟩, hn.set rfl⟩
theorem RS.t {S : x_S} {M : x_M} {r n nf : Nat} (h : RS S M r n nf) (t : Int32) : RS S (y_i M 0 t) r n nf := h
theorem RS.cut {S : x_S} {M : x_M} {r n nf r' : Nat} (h : RS S M r n nf) (hr : r' ≤ r) : RS (x_i S 0 (nI r')) (y_i (y_i M 0 0) 1 (nI r')) r' n nf := by
  obtain ⟨⟨a0, a1, a2⟩, b, c, ⟨d1, d2⟩, e, f, g, o⟩ := h
  exact ⟨⟨by omega, rfl, rfl⟩, b, c, ⟨fun j hj => d1 j (by omega), d2⟩, e, f, g, o⟩
theorem RS.drop {S : x_S} {M : x_M} {r n nf : Nat} (h : RS S M r n nf) : RS (x_i S 2 0) (y_i (y_i M 0 0) 2 0) r 0 nf := by
  obtain ⟨a, ⟨b0, b1, b2⟩, c, d, e, f, g, o⟩ := h
  exact ⟨a, ⟨by omega, rfl, rfl⟩, c, d, e, f, g, o⟩
theorem RS.clear {S : x_S} {M : x_M} {r n nf : Nat} (h : RS S M r n nf) (q : Nat → Option Nat) : RS (x_i (x_R S 0 q) 1 0) (y_i (y_i M 0 0) 5 0) r n 0 := by
  obtain ⟨a, b, c, d, e, f, g, o⟩ := h
  exact ⟨a, b, ⟨rfl, rfl⟩, d, e, f, g, o⟩
theorem RS.tell {S : x_S} {M : x_M} {r n nf : Nat} (h : RS S M r n nf) (hn : n < 96) {w : Int32} (hw : zN w.toInt) : RS (x_i (x_a S 1 n w) 2 (nI (n + 1))) (y_i (y_a (y_i M 0 0) 1 n w) 2 (nI (n + 1))) r (n + 1) nf := by
  obtain ⟨a, ⟨b0, b1, b2⟩, c, d, ⟨e1, e2⟩, f, g, o⟩ := h
  refine ⟨a, ⟨by omega, rfl, rfl⟩, c, d, ⟨?_, fun j => ?_⟩, f, g, o⟩
  · show (x_a S 1 n w).2.1 1 = (y_a (y_i M 0 0) 1 n w).2.1 1
    rw [x_ag, y_ag]
    show upd (S.2.1 1) n w = upd (M.2.1 1) n w
    rw [e1]
  · show zN ((x_a S 1 n w).2.1 1 j).toInt
    rw [x_ag]
    by_cases z : j = n
    · rw [z, upd_s]; exact hw
    · rw [upd_n z]; exact e2 j
theorem RS.input {S : x_S} {M : x_M} {r n nf : Nat} (h : RS S M r n nf) {w : Int32} (j : Nat) (hw : zN w.toInt) : RS (x_a S 2 j w) (y_a (y_i M 0 0) 2 j w) r n nf := by
  obtain ⟨a, b, c, d, e, ⟨f1, f2⟩, g, o⟩ := h
  refine ⟨a, b, c, d, e, ⟨?_, fun k => ?_⟩, g, o⟩
  · rw [x_ag, y_ag]
    show upd (S.2.1 2) j w = upd (M.2.1 2) j w
    rw [f1]
  · rw [x_ag]
    by_cases z : k = j
    · rw [z, upd_s]; exact hw
    · rw [upd_n z]; exact f2 k
theorem f_b_n (w : Int32) (j : Nat) : (f_b w j).toInt8.toInt32 = f_b w j := by
  unfold f_b
  rw [Int8.toInt8_toInt32]
theorem RS.feed {S : x_S} {M : x_M} {r n nf : Nat} {a b c0 d e0 : Int32} {f g : Nat → Int32} (h : RS S M r n nf) (hr : r + 20 ≤ 8192) (f1 : ∀ j, ¬ (r ≤ j ∧ j < r + 20) → f j = S.2.1 0 j) (f2 : ∀ i, i < 20 → f (r + i) = f_b (f_w a b c0 d e0 i) (i % 4)) (g1 : ∀ j, j < r → g j = M.2.1 0 j) (g2 : ∀ i, i < 20 → g (r + i) = f_b (f_w a b c0 d e0 i) (i % 4)) : RS (x_A (x_i S 0 (nI (r + 20))) 0 f) (y_A (y_i (y_i M 0 0) 1 (nI (r + 20))) 0 g) (r + 20) n nf := by
  obtain ⟨⟨a0, a1, a2⟩, b, c, ⟨d1, d2⟩, e, f, g, o⟩ := h
  refine ⟨⟨hr, rfl, rfl⟩, b, c, ⟨fun j hj => ?_, fun j => ?_⟩, e, f, g, o⟩
  · rw [x_Ag, y_Ag]
    by_cases z : j < r
    · rw [f1 j (by omega), g1 j z]; exact d1 j z
    · obtain ⟨i, rfl⟩ : ∃ i, j = r + i := ⟨j - r, by omega⟩
      rw [f2 i (by omega), g2 i (by omega)]
  · rw [x_Ag]
    by_cases z : r ≤ j ∧ j < r + 20
    · obtain ⟨i, rfl⟩ : ∃ i, j = r + i := ⟨j - r, by omega⟩
      rw [f2 i (by omega)]; exact f_b_n _ _
    · rw [f1 j z]; exact d2 j
theorem RS.call {S S' : x_S} {M M' : x_M} {r n nf o : Nat} {rv : pV} (h : RS S M r n nf) (hD : OD S S' o rv) (hM : MD M M' o rv) : RS S' M' r n nf := by
  obtain ⟨⟨a0, a1, a2⟩, ⟨b0, b1, b2⟩, ⟨c1, c2⟩, ⟨d1, d2⟩, ⟨e1, e2⟩, ⟨f1, f2⟩, g, o1⟩ := h
  obtain ⟨⟨p1, p2⟩, p3, p4⟩ := hD
  obtain ⟨⟨q0, ⟨q1, q2, q3⟩, q4⟩, q5, q6⟩ := hM
  have x0 := p2 0 (by decide)
  have x1 := p2 1 (by decide)
  have x2 := p2 2 (by decide)
  have y0 := q4 0 (by decide) (by decide)
  have y1 := q4 1 (by decide) (by decide)
  have y2 := q4 2 (by decide) (by decide)
  refine ⟨⟨a0, (p1 0 (by decide)).trans a1, q1.trans a2⟩, ⟨b0, (p1 2 (by decide)).trans b1, q2.trans b2⟩, ⟨(p1 1 (by decide)).trans c1, q3.trans c2⟩, ⟨fun j hj => by rw [x0, y0]; exact d1 j hj, fun j => by rw [x0]; exact d2 j⟩, ⟨by rw [x1, y1]; exact e1, fun j => by rw [x1]; exact e2 j⟩, ⟨by rw [x2, y2]; exact f1, fun j => by rw [x2]; exact f2 j⟩, ?_⟩
  by_cases z : rv.1 = -1
  · obtain ⟨⟨s1, s2⟩, s3⟩ := p3 z
    obtain ⟨⟨t1, t2⟩, t3⟩ := q5 z
    exact ⟨⟨s1.trans t1.symm, s2.trans t2.symm⟩, fun j hj => (s3 j hj).trans (t3 j hj).symm⟩
  · obtain ⟨⟨s1, s2⟩, s3⟩ := p4 z
    obtain ⟨⟨t1, t2⟩, t3⟩ := q6 z
    exact ⟨⟨s1.trans t1.symm, s2.trans t2.symm⟩, fun j hj => by rw [s3, t3]; exact o1 j hj⟩
theorem OT.ts {T T' : List va_E} {B : Nat → Nat} (h : OT T B) (g : TSm B T T') : OT T' B := by
  obtain ⟨h0, ⟨w, e⟩, hn⟩ := h
  exact ⟨h0, ⟨w, (g.1 0 h0).trans e⟩, g.2 hn⟩
