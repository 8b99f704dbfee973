/-! CALL, with the relation of functions -/
theorem FA.fO {S : x_S} {M : x_M} {T : List va_E} {B : Nat → Nat} {nf : Nat} (h : FA S M T B nf) {f : Nat} (hf : f < nf) : f_O (x_hM S M T) (153 + (20 + (B f + 1))) (M.2.1 5 f) (M.2.1 6 f) := by
  obtain ⟨i, o, -, -, ⟨h5, h6⟩, hk⟩ := h.2.2 f hf
  rw [h5, h6]
  have at_ : ∀ {k : Nat} {c : va_E}, T[k]? = some c → (x_hM S M T)[153 + (20 + k)]? = some c := fun {k c} e => (x_tl S _ (20 + k)).trans ((ms_t M T k).trans e)
  rcases hk with ⟨⟨q, wd, N, Bt, W, R, C, ⟨a1, -⟩, -⟩, -⟩ | ⟨⟨rfl, q, ⟨a1, -⟩, -⟩, -⟩ | ⟨⟨rfl, q, K, F, ⟨a1, -⟩, -⟩, -⟩ | ⟨⟨q, Q, P0, k0, n, Wf, A, B', C, ⟨a1, -⟩, -⟩, -⟩
  · exact ⟨5, _, 5, 6, at_ a1, rfl, rfl, rfl, rfl, rfl⟩
  · exact ⟨6, _, 0, 1, at_ a1, rfl, rfl, rfl, rfl, rfl⟩
  · exact ⟨7, _, 1, 2, at_ a1, rfl, rfl, rfl, rfl, rfl⟩
  · exact ⟨8, _, 6, 7, at_ a1, rfl, rfl, rfl, rfl, rfl⟩
theorem FA.fF {S : x_S} {M : x_M} {T : List va_E} {B : Nat → Nat} {nf : Nat} (h : FA S M T B nf) : f_F (x_hM S M T) (S.2.2.1 0) (M.2.1 5) (M.2.1 6) nf := fun f hf => by
  obtain ⟨i, o, -, hS, -, -⟩ := h.2.2 f hf
  exact ⟨_, hS, h.fO hf⟩
/-- the class has called -/
def OD (S S' : x_S) (o : Nat) (r : pV) : Prop := ((∀ k, k < 3 → S'.1 k = S.1 k) ∧ ∀ k, k < 3 → S'.2.1 k = S.2.1 k) ∧ (r.1 = -1 → (S'.1 3 = -1 ∧ S'.1 4 = -1) ∧ ∀ j, j < 4 → S'.2.1 3 j = if j < o then iZ (r.2.2 j) else 0) ∧ (r.1 ≠ -1 → (S'.1 3 = iZ r.1 ∧ S'.1 4 = nI r.2.1) ∧ S'.2.1 3 = S.2.1 3)
def cS1 (S : x_S) : x_S := x_i (x_i (x_A S 4 (va_cpy (S.2.1 2) (S.2.1 4) 0 0 4)) 3 (-1)) 4 (-1)
theorem cS1_1 {S : x_S} {k : Nat} (h : k < 3) : (cS1 S).1 k = S.1 k := by
  show upd (upd S.1 3 (-1)) 4 (-1) k = _
  rw [upd_n (by omega), upd_n (by omega)]
theorem cS1_2 {S : x_S} {k : Nat} (h : k ≠ 4) : (cS1 S).2.1 k = S.2.1 k := by
  show va_up S.2.1 4 _ k = _
  unfold va_up
  rw [if_neg h]
def NQ (S : x_S) (M : x_M) (T : List va_E) (B : Nat → Nat) (nf o : Nat) (r : pV) (S' : x_S) (tl' : List va_E) : Prop := ∃ T', tl' = x_ms M ++ T' ∧ OC (cS1 S) S' o r ∧ FA S' M T' B nf ∧ TSm B T T'
theorem NQ.fin {S : x_S} {M : x_M} {T : List va_E} {B : Nat → Nat} {nf o : Nat} {r : pV} {v : Option Value} {h' : List va_E} (h : ∃ S' tl', NQ S M T B nf o r S' tl' ∧ ((S'.1 3 ≠ -1 ∧ v = some (.int (-1)) ∧ h' = x_hC S' tl') ∨ (S'.1 3 = -1 ∧ v = some (.int (nI o)) ∧ ∃ g, h' = x_hC (x_A S' 3 g) tl' ∧ (∀ j, j < o → g j = S'.2.1 3 j) ∧ ∀ j, o ≤ j → j < 4 → g j = 0))) : ∃ S' T', h' = x_hM S' M T' ∧ FA S' M T' B nf ∧ TSm B T T' ∧ OD S S' o r ∧ v = some (.int (if r.1 = -1 then nI o else -1)) := by
  obtain ⟨S', tl', ⟨T', rfl, hO, hA', hB⟩, h⟩ := h
  have e1 : ∀ k, k < 3 → S'.1 k = S.1 k := fun k hk => (hO.1.1 k (by omega) (by omega) (by omega) (by omega)).trans (cS1_1 hk)
  have e2 : ∀ k, k < 3 → S'.2.1 k = S.2.1 k := fun k hk => (hO.1.2.1 k (by omega) (by omega) (by omega) (by omega)).trans (cS1_2 (by omega))
  rcases h with ⟨a1, rfl, rfl⟩ | ⟨a1, rfl, g, rfl, g1, g2⟩
  · have hr : r.1 ≠ -1 := fun y => a1 ((hO.2.1 y).1.1.trans rfl)
    obtain ⟨-, k2, k3⟩ := hO.2.2 hr
    exact ⟨S', T', rfl, hA', hB, ⟨⟨e1, e2⟩, fun y => absurd y hr, fun _ => ⟨k2, k3.trans (cS1_2 (by decide))⟩⟩, by rw [if_neg hr]⟩
  · have hr : r.1 = -1 := Classical.byContradiction fun y => (hO.2.2 y).1 ((hO.2.2 y).2.1.1.symm.trans a1)
    obtain ⟨⟨-, k2⟩, k3, -⟩ := hO.2.1 hr
    refine ⟨x_A S' 3 g, T', rfl, hA'.S rfl, hB, ⟨⟨e1, fun k hk => (x_An S' g (by omega)).trans (e2 k hk)⟩, fun _ => ⟨⟨a1, k2.trans rfl⟩, fun j hj => ?_⟩, fun y => absurd hr y⟩, by rw [if_pos hr]⟩
    rw [x_Ag]
    by_cases y : j < o
    · rw [if_pos y, g1 j y, k3 j y]
    · rw [if_neg y]; exact g2 j (by omega) hj
set_option maxHeartbeats 4000000 in
theorem N_call_m {l : Launch} {G : ax_G} {S : x_S} {M : x_M} {T : List va_E} {B : Nat → Nat} {nf : Nat} (f : Nat) (inp : Nat → Int) (hA : FA S M T B nf) (hf : f < nf) (h1 : S.1 1 = nI nf) (hI : ∀ k, k < 4 → zN (inp k) ∧ S.2.1 2 k = iZ (inp k) ∧ M.2.1 2 k = iZ (inp k)) :
    ∃ (o : Nat) (r : pV), (1 ≤ o ∧ o ≤ 4) ∧ M.2.1 6 f = nI o ∧ RF M o (f + 1) f inp r ∧ AM l VV G N_call_y N_call_c 4 (some .int) 31 0 0 [.ref 132, .int (nI f)] (x_hM S M T) (fun v h' => ∃ S' T', h' = x_hM S' M T' ∧ FA S' M T' B nf ∧ TSm B T T' ∧ OD S S' o r ∧ v = some (.int (if r.1 = -1 then nI o else -1))) := by
  have h24 := hA.1
  have hV : GV (cS1 S) M inp := fun k hk => ⟨(hI k hk).1, by
    show va_cpy (S.2.1 2) (S.2.1 4) 0 0 4 k = _
    unfold va_cpy
    rw [if_pos ⟨by omega, by omega⟩, Nat.zero_add, Nat.sub_zero]
    exact (hI k hk).2.1, fun _ => (hI k hk).2.2⟩
  obtain ⟨o, ho, h6, r, r1, r2⟩ := EV (l := l) (G := G) f hf (cS1 S) T inp (hA.S rfl) hV
  refine ⟨o, r, ho, h6, r1, ?_⟩
  obtain ⟨i0, o0, -, hS, -, -⟩ := hA.2.2 f hf
  have hQ : ∀ S' tl', NQ S M T B nf o r S' tl' → f_O (x_hC S' tl') (153 + (20 + (B f + 1))) (M.2.1 5 f) (nI o) := by
    rintro S' tl' ⟨T', rfl, -, hA', -⟩
    rw [← h6]
    exact hA'.fO hf
  have hm : ∀ {v : Option Value} {h' : List va_E}, (v = none ∧ ∃ S' T', h' = x_hM S' M T' ∧ OC (cS1 S) S' o r ∧ FA S' M T' B nf ∧ TSm B T T') → v = none ∧ ∃ S' tl', h' = x_hC S' tl' ∧ NQ S M T B nf o r S' tl' := by
    rintro v h' ⟨e, S', T', e1, e2⟩
    exact ⟨e, S', _, e1, T', rfl, e2⟩
  have tt : ∀ {c : va_E}, (x_hM (cS1 S) M T)[153 + (20 + (B f + 1))]? = some c → (x_ms M ++ T)[20 + (B f + 1)]? = some c := fun {c} e => (x_tl _ _ _).symm.trans e
  rcases r2 30 (by omega) with ⟨⟨fs, g1⟩, g2⟩ | ⟨⟨fs, g1⟩, g2⟩ | ⟨⟨fs, g1⟩, g2⟩ | ⟨⟨fs, g1⟩, g2⟩
  · exact (N_callS_m (l := l) (G := G) S (x_ms M ++ T) 30 f nf o (20 + (B f + 1)) (M.2.1 5 f) fs hf h24 h1 ho hS (tt g1) (NQ S M T B nf o r) hQ (g2.mono (fun v h' => hm))).mono (fun v h' => NQ.fin)
  · exact (N_callP_m (l := l) (G := G) S (x_ms M ++ T) 30 f nf o (20 + (B f + 1)) (M.2.1 5 f) fs hf h24 h1 ho hS (tt g1) (NQ S M T B nf o r) hQ (g2.mono (fun v h' => hm))).mono (fun v h' => NQ.fin)
  · exact (N_callZ_m (l := l) (G := G) S (x_ms M ++ T) 30 f nf o (20 + (B f + 1)) (M.2.1 5 f) fs hf h24 h1 ho hS (tt g1) (NQ S M T B nf o r) hQ (g2.mono (fun v h' => hm))).mono (fun v h' => NQ.fin)
  · exact (N_callG_m (l := l) (G := G) S (x_ms M ++ T) 30 f nf o (20 + (B f + 1)) (M.2.1 5 f) fs hf h24 h1 ho hS (tt g1) (NQ S M T B nf o r) hQ (g2.mono (fun v h' => hm))).mono (fun v h' => NQ.fin)
