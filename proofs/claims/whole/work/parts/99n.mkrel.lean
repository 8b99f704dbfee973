/-! MAKE, both -/
theorem OT.app {T t : List va_E} {B : Nat → Nat} (h : OT T B) (ht : NF t) : OT (T ++ t) B := by
  obtain ⟨h0, ⟨w, e⟩, hn⟩ := h
  exact ⟨h0, ⟨w, by rw [List.getElem?_append_left (lt_of e)]; exact e⟩, hn.app ht⟩
theorem ME.mr {M M' : x_M} {nf : Nat} {c p : Int32} (h : ME M M' nf c p) : ∀ f, f < nf → MR M M' f := by
  obtain ⟨-, -, e3, e4, e5⟩ := h
  exact fun f hf => ⟨fun p hp => ⟨by rw [e3 4 (by decide)], by rw [e3 5 (by decide)], by rw [e3 6 (by decide)], e4 p (by omega)⟩, fun k _ => by rw [e3 7 (by decide)], fun k hk => e5 k (by omega)⟩
theorem MK.mr {M M' : x_M} {kd x y : Int32} {nf n r : Nat} (h : MK M M' kd x y nf n r) : ∀ f, f < nf → MR M M' f := by
  obtain ⟨-, -, -, ⟨e4, e5, e6, e8⟩, ⟨-, e7⟩, -, e9⟩ := h
  exact fun f hf => ⟨fun p hp => ⟨by rw [e4, upd_n (by omega)], by rw [e5, upd_n (by omega)], by rw [e6, upd_n (by omega)], by rw [e8, upd_n (by omega)]⟩, fun k hk => e7 k (by omega), fun k hk => e9 k (by omega)⟩
/-- the class has made none -/
def MF (S S' : x_S) (T T' : List va_E) (c p : Int32) : Prop := (∀ k, k < 3 → S'.1 k = S.1 k) ∧ (∀ k, k < 4 → S'.2.1 k = S.2.1 k) ∧ S'.2.2.1 0 = S.2.2.1 0 ∧ (S'.1 3 = c ∧ S'.1 4 = p) ∧ ∃ t, T' = T ++ t ∧ NF t
theorem RS.me {S S' : x_S} {M M' : x_M} {T T' : List va_E} {r n nf : Nat} {c p : Int32} (h : RS S M r n nf) (hF : MF S S' T T' c p) (hE : ME M M' nf c p) : RS S' M' r n nf := by
  obtain ⟨⟨a0, a1, a2⟩, ⟨b0, b1, b2⟩, ⟨c1, c2⟩, ⟨d1, d2⟩, ⟨e1, e2⟩, ⟨f1, f2⟩, g, o1⟩ := h
  obtain ⟨p1, p2, -, ⟨p3, p4⟩, -⟩ := hF
  obtain ⟨⟨-, q3, q4⟩, ⟨q0, q1, q2⟩, q5, -, -⟩ := hE
  have x0 := p2 0 (by decide)
  have x1 := p2 1 (by decide)
  have x2 := p2 2 (by decide)
  have x3 := p2 3 (by decide)
  have y0 := q5 0 (by decide)
  have y1 := q5 1 (by decide)
  have y2 := q5 2 (by decide)
  have y3 := q5 3 (by decide)
  exact ⟨⟨a0, (p1 0 (by decide)).trans a1, q0.trans a2⟩, ⟨b0, (p1 2 (by decide)).trans b1, q1.trans b2⟩, ⟨(p1 1 (by decide)).trans c1, q2.trans c2⟩, ⟨fun j hj => by rw [x0, y0]; exact d1 j hj, fun j => by rw [x0]; exact d2 j⟩, ⟨by rw [x1, y1]; exact e1, fun j => by rw [x1]; exact e2 j⟩, ⟨by rw [x2, y2]; exact f1, fun j => by rw [x2]; exact f2 j⟩, ⟨p3.trans q3.symm, p4.trans q4.symm⟩, fun j hj => by rw [x3, y3]; exact o1 j hj⟩
def nB (B : Nat → Nat) (nf a k : Nat) : Nat → Nat := fun f => if f < nf then B f else if f = nf then a else a + k
theorem nB_l {B : Nat → Nat} {nf a k f : Nat} (h : f < nf) : nB B nf a k f = B f := by unfold nB; rw [if_pos h]
theorem nB_e {B : Nat → Nat} {nf a k : Nat} : nB B nf a k nf = a := by unfold nB; rw [if_neg (Nat.lt_irrefl _), if_pos rfl]
theorem nB_s {B : Nat → Nat} {nf a k : Nat} : nB B nf a k (nf + 1) = a + k := by unfold nB; rw [if_neg (by omega), if_neg (by omega)]
/-- the class has made one -/
def MG (S : x_S) (M : x_M) (T : List va_E) (B : Nat → Nat) (r n nf : Nat) (kd : Int32) (i m : Nat) (S' : x_S) (T' : List va_E) : Prop := ((S'.1 0 = S.1 0 ∧ S'.1 1 = nI (nf + 1) ∧ S'.1 2 = 0) ∧ S'.1 3 = -1 ∧ S'.1 4 = -1) ∧ (∀ k, k < 4 → S'.2.1 k = S.2.1 k) ∧ ((∀ f, f < nf → S'.2.2.1 0 f = S.2.2.1 0 f) ∧ S'.2.2.1 0 nf = some (153 + (20 + (T.length + 1)))) ∧ ∃ t, (T' = T ++ t ∧ NF t) ∧ ∀ (M' : x_M) (T0 : List va_E), MK M M' kd (nI i) (nI m) nf n r → T0.length = T.length → FK M' (T0 ++ t) (nB B nf T.length t.length) nf i m
theorem RS.mk {S S' : x_S} {M M' : x_M} {T T' : List va_E} {B : Nat → Nat} {r n nf i m : Nat} {kd : Int32} (h : RS S M r n nf) (hF : MG S M T B r n nf kd i m S' T') (hE : MK M M' kd (nI i) (nI m) nf n r) : RS S' M' r 0 (nf + 1) := by
  obtain ⟨⟨a0, a1, a2⟩, ⟨b0, b1, b2⟩, ⟨c1, c2⟩, ⟨d1, d2⟩, ⟨e1, e2⟩, ⟨f1, f2⟩, g, o1⟩ := h
  obtain ⟨⟨⟨u0, u1, u2⟩, u3, u4⟩, p2, -, -⟩ := hF
  obtain ⟨⟨-, q3, q4⟩, ⟨q0, q1, q2⟩, q5, -, -⟩ := hE
  have x0 := p2 0 (by decide)
  have x1 := p2 1 (by decide)
  have x2 := p2 2 (by decide)
  have x3 := p2 3 (by decide)
  have y0 := q5 0 (by decide)
  have y1 := q5 1 (by decide)
  have y2 := q5 2 (by decide)
  have y3 := q5 3 (by decide)
  exact ⟨⟨a0, u0.trans a1, q0.trans a2⟩, ⟨by omega, u2.trans rfl, q1.trans rfl⟩, ⟨u1, q2⟩, ⟨fun j hj => by rw [x0, y0]; exact d1 j hj, fun j => by rw [x0]; exact d2 j⟩, ⟨by rw [x1, y1]; exact e1, fun j => by rw [x1]; exact e2 j⟩, ⟨by rw [x2, y2]; exact f1, fun j => by rw [x2]; exact f2 j⟩, ⟨u3.trans q3.symm, u4.trans q4.symm⟩, fun j hj => by rw [x3, y3]; exact o1 j hj⟩
theorem FA.new {S S' : x_S} {M M' : x_M} {T t : List va_E} {B : Nat → Nat} {nf i m : Nat} (hA : FA S M T B nf) (h24 : nf < 24) (hS : ∀ f, f < nf → S'.2.2.1 0 f = S.2.2.1 0 f) (hS1 : S'.2.2.1 0 nf = some (153 + (20 + (T.length + 1)))) (hMR : ∀ f, f < nf → MR M M' f) (him : (1 ≤ i ∧ i ≤ 4) ∧ 1 ≤ m ∧ m ≤ 4) (h5 : M'.2.1 5 nf = nI i) (h6 : M'.2.1 6 nf = nI m) (hk : FK M' (T ++ t) (nB B nf T.length t.length) nf i m) : FA S' M' (T ++ t) (nB B nf T.length t.length) (nf + 1) := by
  refine ⟨by omega, by rw [nB_s, List.length_append]; exact Nat.le_refl _, fun f hf => ?_⟩
  by_cases z : f = nf
  · subst z
    exact ⟨i, m, him, by rw [nB_e]; exact hS1, ⟨h5, h6⟩, hk⟩
  · have hf' : f < nf := by omega
    obtain ⟨i', o', a, b, c, k⟩ := ((hA.app t).M hMR).2.2 f hf'
    refine ⟨i', o', a, by rw [nB_l hf', hS f hf']; exact b, c, k.B (fun p hp => nB_l (by omega)) ?_⟩
    by_cases y : f + 1 = nf
    · rw [y, nB_e]; exact hA.2.1
    · rw [nB_l (by omega)]; exact Nat.le_refl _
/-- both make, or neither -/
def MP (l : Launch) (G : ax_G) (S : x_S) (M : x_M) (T : List va_E) (B : Nat → Nat) (kd x y : Int32) : Prop := ∃ (val : Int32) (MI : x_S → List va_E → Prop), AM l VV G N_make_y N_make_c 5 (some .int) 9 6 8700 [.ref 132, .int kd, .int x, .int y] (x_hM S M T) (fun v h' => v = some (.int val) ∧ ∃ S' T', h' = x_hM S' M T' ∧ OT T' B ∧ MI S' T') ∧ ∀ S' T' w, MI S' T' → AM l VV G M_make_y M_make_c 6 (some .int) 9 0 0 [.ref 153, .int kd, .int x, .int y] (x_hM S' M (T'.set 0 (oC w))) (fun v h' => v = some (.int val) ∧ ∃ M', h' = x_hM S' M' (T'.set 0 (oC w)) ∧ M'.1 0 = 0 ∧ ∃ B r n nf, RS S' M' r n nf ∧ FA S' M' (T'.set 0 (oC w)) B nf ∧ OT (T'.set 0 (oC w)) B)
theorem MPf {l : Launch} {G : ax_G} {S : x_S} {M : x_M} {T : List va_E} {B : Nat → Nat} {r n nf : Nat} {kd x y c p : Int32} (hR : RS S M r n nf) (hA : FA S M T B nf) (hT : OT T B) (hN : AM l VV G N_make_y N_make_c 5 (some .int) 9 6 8700 [.ref 132, .int kd, .int x, .int y] (x_hM S M T) (fun v h' => v = some (.int (-1)) ∧ ∃ S' tl', h' = x_hC S' tl' ∧ ∃ T', tl' = x_ms M ++ T' ∧ MF S S' T T' c p)) (hM : ∀ S' tl, AM l VV G M_make_y M_make_c 6 (some .int) 9 0 0 [.ref 153, .int kd, .int x, .int y] (x_hM S' M tl) (fun v h' => v = some (.int (-1)) ∧ ∃ M', h' = x_hM S' M' tl ∧ ME M M' nf c p)) : MP l G S M T B kd x y := by
  refine ⟨-1, fun S' T' => MF S S' T T' c p, hN.mono ?_, ?_⟩
  · rintro v h' ⟨e, S', tl', rfl, T', rfl, hF⟩
    obtain ⟨t, rfl, ht⟩ := hF.2.2.2.2
    exact ⟨e, S', T ++ t, rfl, hT.app ht, hF⟩
  · intro S' T' w hF
    obtain ⟨t, rfl, ht⟩ := hF.2.2.2.2
    refine (hM S' ((T ++ t).set 0 (oC w))).mono ?_
    rintro v h' ⟨e, M', rfl, hE⟩
    exact ⟨e, M', rfl, hE.1.1, B, r, n, nf, RS.me hR hF hE, (((hA.S hF.2.2.1).app t).out hT.1 _).M hE.mr, (hT.app ht).set w⟩
theorem MPs {l : Launch} {G : ax_G} {S : x_S} {M : x_M} {T : List va_E} {B : Nat → Nat} {r n nf i m : Nat} {kd : Int32} (hR : RS S M r n nf) (hA : FA S M T B nf) (hT : OT T B) (h24 : nf < 24) (him : (1 ≤ i ∧ i ≤ 4) ∧ 1 ≤ m ∧ m ≤ 4) (hN : AM l VV G N_make_y N_make_c 5 (some .int) 9 6 8700 [.ref 132, .int kd, .int (nI i), .int (nI m)] (x_hM S M T) (fun v h' => v = some (.int (nI nf)) ∧ ∃ S' T', h' = x_hM S' M T' ∧ MG S M T B r n nf kd i m S' T')) (hM : ∀ S' tl, AM l VV G M_make_y M_make_c 6 (some .int) 9 0 0 [.ref 153, .int kd, .int (nI i), .int (nI m)] (x_hM S' M tl) (fun v h' => v = some (.int (nI nf)) ∧ ∃ M', h' = x_hM S' M' tl ∧ MK M M' kd (nI i) (nI m) nf n r)) : MP l G S M T B kd (nI i) (nI m) := by
  refine ⟨nI nf, fun S' T' => MG S M T B r n nf kd i m S' T', hN.mono ?_, ?_⟩
  · rintro v h' ⟨e, S', T', rfl, hF⟩
    obtain ⟨t, ⟨rfl, ht⟩, -⟩ := hF.2.2.2
    exact ⟨e, S', T ++ t, rfl, hT.app ht, hF⟩
  · intro S' T' w hF
    obtain ⟨t, ⟨rfl, ht⟩, hK⟩ := hF.2.2.2
    have hT0 := hT
    obtain ⟨b0, ⟨w0, e0⟩, hn0⟩ := hT0
    have h0 : 0 < T.length := lt_of e0
    have es : (T ++ t).set 0 (oC w) = T.set 0 (oC w) ++ t := List.set_append_left _ _ h0
    refine (hM S' ((T ++ t).set 0 (oC w))).mono ?_
    rintro v h' ⟨e, M', rfl, hE⟩
    refine ⟨e, M', rfl, hE.1.1, nB B nf T.length t.length, r, 0, nf + 1, RS.mk hR hF hE, ?_, ?_⟩
    · rw [es]
      have hl : (T.set 0 (oC w)).length = T.length := List.length_set
      have hk := hK M' (T.set 0 (oC w)) hE hl
      rw [← hl] at hk ⊢
      exact (hA.out b0 (oC w)).new h24 hF.2.2.1.1 (by rw [hl]; exact hF.2.2.1.2) hE.mr him (by rw [hE.2.2.2.1.2.1, upd_s]) (by rw [hE.2.2.2.1.2.2.1, upd_s]) hk
    · refine ⟨?_, ⟨w, ?_⟩, (hn0.app ht).set rfl⟩
      · unfold nB
        split
        · exact b0
        · split <;> omega
      · exact List.getElem?_set_self (by rw [List.length_append]; omega)
