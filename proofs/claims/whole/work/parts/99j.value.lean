/-! THE VALUE of a function, both sides -/
abbrev pV : Type := Int × Nat × (Nat → Int)
/-- the reference, at the function that is no stitched one -/
def TM (M : x_M) (f : Nat) (inp : Nat → Int) (o : Nat) (r : pV) : Prop :=
  (M.2.1 4 f = 0 ∧ ∃ (n wd : Nat) (q : Nat → Int), f < 24 ∧ zTl q n o wd ∧ q (5 * n) = wd ∧ FQ M f q (5 * n + 1 + 4 * o) ∧ M.2.1 5 f = nI n ∧ M.2.1 6 f = nI o ∧ (∀ k, k < n → q (5 * k) ≤ q (5 * k + 1)) ∧ r = (-1, 0, fun j => zSm q (zbt (fun j => M.2.1 9 (8192 * f + j))) n o j inp))
  ∨ (M.2.1 4 f = 2 ∧ ∃ q : Nat → Int, FQ M f q (3 + 2 * o) ∧ (1 ≤ o ∧ o ≤ 4) ∧ M.2.1 6 f = nI o ∧ (q 0 ≤ q 1 ∧ 0 ≤ q 2 ∧ q 2 ≤ 16) ∧ r = (-1, 0, fun j => zPw q (inp 0) j))
  ∨ (M.2.1 4 f = 4 ∧ ∃ (i n k0 : Nat) (q : Nat → Int) (P0 Q : pP), f < 24 ∧ (1 ≤ i ∧ i ≤ 4) ∧ (1 ≤ o ∧ o ≤ 4) ∧ M.2.1 5 f = nI i ∧ M.2.1 6 f = nI o ∧ FQ M f q (2 * (i + o)) ∧ M.2.1 8 f = nI n ∧ n ≤ 8192 ∧ (qn P0 = 0 ∧ qd P0 = 0) ∧ prs (sgM M f) n 401 (ws (sgM M f) n 0) P0 = (-1, k0, Q)
    ∧ ((∃ Y, (∃ m, MC pfS (qc Q) (qm Q) (qn Q) m (1, [], (i, uIn inp q, tNo)) (qn Q, [], Y)) ∧ r = (pend Y.1 Y.2.2 o, qn Q, fun j => zcut (Y.2.1 j) (q (2 * i + 2 * j)) (q (2 * i + 2 * j + 1)))) ∨ ∃ (c : Int) (p : Nat), iZ c ≠ -1 ∧ (∃ m X, MC pfS (qc Q) (qm Q) (qn Q) m (1, [], (i, uIn inp q, tNo)) X ∧ mflt pfS (qc Q) (qm Q) (qn Q) X c p) ∧ r = (c, p, fun _ => 0)))
def in0 (inp : Nat → Int) (x : Int) : Nat → Int := fun j => if j = 0 then x else inp j
def RF (M : x_M) (o : Nat) : Nat → Nat → (Nat → Int) → pV → Prop
  | 0, _, _, _ => False
  | k + 1, f, inp, r => TM M f inp o r ∨ (M.2.1 4 f = 3 ∧ ∃ (q : Nat → Int) (K p : Nat), FQ M f q (4 * K + 2) ∧ (1 ≤ K ∧ K ≤ 8) ∧ q 2 = K ∧ q 0 ≤ q 1 ∧ q (3 + zPt q K (inp 0)) = p ∧ p < 24 ∧ zN (zSt q K (inp 0)) ∧ RF M o k p (in0 inp (zSt q K (inp 0))) r)
theorem RF.up {M : x_M} {o : Nat} : ∀ {k k' f : Nat} {inp : Nat → Int} {r : pV}, k ≤ k' → RF M o k f inp r → RF M o k' f inp r := by
  intro k
  induction k with
  | zero => intro k' f inp r _ h; exact absurd h id
  | succ k ih =>
    intro k' f inp r hk h
    obtain ⟨k2, rfl⟩ : ∃ k2, k' = k2 + 1 := ⟨k' - 1, by omega⟩
    rcases h with h | ⟨h3, q, K, p, a, b, c, d, e, e1, e2, g⟩
    · exact Or.inl h
    · exact Or.inr ⟨h3, q, K, p, a, b, c, d, e, e1, e2, ih (by omega) g⟩
/-- no cell is left unsaid -/
def NF (T : List va_E) : Prop := ∀ c ∈ T, ax_nf c = true
theorem NF.app {T t : List va_E} (h : NF T) (g : NF t) : NF (T ++ t) := fun c hc => (List.mem_append.mp hc).elim (h c) (g c)
theorem NF.set {T : List va_E} {k : Nat} {c : va_E} (h : NF T) (g : ax_nf c = true) : NF (T.set k c) := fun x hx => (List.mem_or_eq_of_mem_set hx).elim (h x) (fun e => by rw [e]; exact g)
theorem NF.sT {T : List va_E} (h : NF T) (x : Nat) (W R : Nat → Int32) (C : Nat → Int64) : NF (sT T x W R C) := ((h.set rfl).set rfl).set rfl
/-- what lies before the functions is kept -/
def TSm (B : Nat → Nat) (T T' : List va_E) : Prop := (∀ k, k < B 0 → T'[k]? = T[k]?) ∧ (NF T → NF T')
theorem TSm.refl (B : Nat → Nat) (T : List va_E) : TSm B T T := ⟨fun _ _ => rfl, id⟩
/-- the class, whatever the kind -/
def CE (l : Launch) (G : ax_G) (dd : Nat) (h : List va_E) (a : Nat) (Pq : List va_E → Prop) : Prop :=
  ((∃ fs, h[153 + a]? = some (.inr (5, fs))) ∧ AM l VV G S_evaluate_y S_evaluate_c 9 none dd 0 0 [.ref (153 + a), .ref 139, .ref 138, .ref 140] h (fun v h' => v = none ∧ Pq h'))
  ∨ ((∃ fs, h[153 + a]? = some (.inr (6, fs))) ∧ AM l VV G P_evaluate_y P_evaluate_c 11 none dd 0 0 [.ref (153 + a), .ref 139, .ref 138, .ref 140] h (fun v h' => v = none ∧ Pq h'))
  ∨ ((∃ fs, h[153 + a]? = some (.inr (7, fs))) ∧ AM l VV G Z_evaluate_y Z_evaluate_c 12 none dd 0 0 [.ref (153 + a), .ref 139, .ref 138, .ref 140] h (fun v h' => v = none ∧ Pq h'))
  ∨ ((∃ fs, h[153 + a]? = some (.inr (8, fs))) ∧ AM l VV G G_evaluate_y G_evaluate_c 9 none dd 0 0 [.ref (153 + a), .ref 139, .ref 138, .ref 140] h (fun v h' => v = none ∧ Pq h'))
def OC (S S' : x_S) (o : Nat) (r : pV) : Prop := ((∀ k, k ≠ 3 → k ≠ 4 → k ≠ 9 → k ≠ 10 → S'.1 k = S.1 k) ∧ (∀ k, k ≠ 3 → k ≠ 4 → k ≠ 12 → k ≠ 13 → S'.2.1 k = S.2.1 k) ∧ S'.2.2 = S.2.2) ∧ (r.1 = -1 → (S'.1 3 = S.1 3 ∧ S'.1 4 = S.1 4) ∧ (∀ j, j < o → S'.2.1 3 j = iZ (r.2.2 j)) ∧ ∀ j, o ≤ j → S'.2.1 3 j = S.2.1 3 j) ∧ (r.1 ≠ -1 → iZ r.1 ≠ -1 ∧ (S'.1 3 = iZ r.1 ∧ S'.1 4 = nI r.2.1) ∧ S'.2.1 3 = S.2.1 3)
theorem OC.x3 {S : x_S} {o : Nat} {r : pV} {g : Nat → Int32} (h1 : r.1 = -1) (h2 : ∀ j, j < o → g j = iZ (r.2.2 j)) (h3 : ∀ j, o ≤ j → g j = S.2.1 3 j) : OC S (x_A S 3 g) o r := by
  refine ⟨⟨fun _ _ _ _ _ => rfl, fun k a _ _ _ => ?_, rfl⟩, fun _ => ⟨⟨rfl, rfl⟩, h2, h3⟩, fun z => absurd h1 z⟩
  show va_up _ 3 g k = _
  unfold va_up
  rw [if_neg a]
theorem OC.tr {S S' : x_S} {o : Nat} {r : pV} (h : TRf S S') (h1 : r.1 = -1 → (S'.1 3 = S.1 3 ∧ S'.1 4 = S.1 4) ∧ (∀ j, j < o → S'.2.1 3 j = iZ (r.2.2 j)) ∧ ∀ j, o ≤ j → S'.2.1 3 j = S.2.1 3 j) (h2 : r.1 ≠ -1 → iZ r.1 ≠ -1 ∧ (S'.1 3 = iZ r.1 ∧ S'.1 4 = nI r.2.1) ∧ S'.2.1 3 = S.2.1 3) : OC S S' o r := ⟨⟨h.1, fun k a _ b c => h.2.1 k a b c, h.2.2⟩, h1, h2⟩
theorem OC.g4 {S S' : x_S} {o : Nat} {r : pV} {x : Int32} (h : OC (x_a S 4 0 x) S' o r) : OC S S' o r := by
  obtain ⟨⟨a, b, c⟩, d, e⟩ := h
  refine ⟨⟨a, fun k k1 k2 k3 k4 => (b k k1 k2 k3 k4).trans ?_, c⟩, d, e⟩
  show va_up _ 4 _ k = _
  unfold va_up
  rw [if_neg k2]
theorem pend_z {n o : Nat} {t : Nat → Bool} (h : pend n t o ≠ -1) : iZ (pend n t o) ≠ -1 := by
  unfold pend at h ⊢
  split
  · decide
  · split
    · decide
    · rename_i a b
      exact absurd (by rw [if_neg a, if_neg b]) h
/-- what both sides know of the given -/
def GV (S : x_S) (M : x_M) (inp : Nat → Int) : Prop := ∀ k, k < 4 → zN (inp k) ∧ S.2.1 4 k = iZ (inp k) ∧ (k ≠ 0 → M.2.1 2 k = iZ (inp k))
theorem GV.i0 {S : x_S} {M : x_M} {inp : Nat → Int} {x : Int} (h : GV S M inp) (hx : zN x) : GV (x_a S 4 0 (iZ x)) M (in0 inp x) := by
  intro k hk
  unfold in0
  by_cases z : k = 0
  · subst z
    exact ⟨hx, upd_s (S.2.1 4) 0 (iZ x), fun z => absurd rfl z⟩
  · rw [if_neg z]
    exact ⟨(h k hk).1, (upd_n (f := S.2.1 4) z).trans (h k hk).2.1, fun _ => (h k hk).2.2 z⟩
def EVp (l : Launch) (G : ax_G) (S : x_S) (M : x_M) (T : List va_E) (B : Nat → Nat) (nf f o : Nat) (inp : Nat → Int) : Prop := ∃ r : pV, RF M o (f + 1) f inp r ∧ ∀ dd, 6 + f ≤ dd → CE l G dd (x_hM S M T) (20 + (B f + 1)) (fun h' => ∃ S' T', h' = x_hM S' M T' ∧ OC S S' o r ∧ FA S' M T' B nf ∧ TSm B T T')
set_option maxHeartbeats 4000000 in
theorem EV {l : Launch} {G : ax_G} {M : x_M} {B : Nat → Nat} {nf : Nat} : ∀ (f : Nat), f < nf → ∀ (S : x_S) (T : List va_E) (inp : Nat → Int), FA S M T B nf → GV S M inp → ∃ o, (1 ≤ o ∧ o ≤ 4) ∧ M.2.1 6 f = nI o ∧ EVp l G S M T B nf f o inp := by
  intro f
  induction f using Nat.strongRecOn with
  | ind f ih =>
  intro hf S T inp hA hV
  obtain ⟨i, o, ⟨hi, ho⟩, hS, ⟨h5, h6⟩, hk⟩ := hA.2.2 f hf
  have h24 : f < 24 := by have := hA.1; omega
  refine ⟨o, ho, h6, ?_⟩
  have at_ : ∀ {k : Nat} {c : va_E}, T[k]? = some c → (x_hM S M T)[153 + (20 + k)]? = some c := fun {k c} e => (x_tl S _ (20 + k)).trans ((ms_t M T k).trans e)
  rcases hk with ⟨hs, hb⟩ | ⟨⟨hi1, q, ⟨a1, a2⟩, c, d1, d2⟩, hb⟩ | ⟨⟨hi1, q, K, F, ⟨a1, a2, a3⟩, ⟨c1, c2, c3⟩, d1, d2, d3⟩, hb⟩ | ⟨⟨q, Q, P0, k0, n, Wf, A, B', C, ⟨a1, a2, a3, a4, a5, a6⟩, b1, c, d1, d2, d3, d4, d5⟩, hb⟩
  · have hs0 := hs
    obtain ⟨q, wd, N, Bt, W, R, C, ⟨a1, a2, a3⟩, ⟨b1, b2, b3⟩, ⟨c1, c2, c3, c4, c5, c6⟩, d1, d2, d3⟩ := hs
    refine ⟨(-1, 0, fun j => zSm q (zbt (fun j => M.2.1 9 (8192 * f + j))) i o j inp), Or.inl (Or.inl ⟨d1, i, wd, q, h24, c1, c2, d2, h5, h6, c3, rfl⟩), fun dd hdd => Or.inl ⟨⟨_, at_ a1⟩, ?_⟩⟩
    have hl := lt_of b3
    have hh := S_evaluate_m (l := l) (G := G) S (x_ms M ++ T) (20 + (B f + 1)) (20 + B f) (20 + (B f + 2)) (20 + (B f + 3)) i o wd N q Bt ((ms_t M T _).trans a1) (a2.ms M) ((ms_t M T _).trans a3) (by omega) (by omega) (by omega) (by rw [ms_l]; omega) c1.1 c1.2.1 c1.2.2.1 c1.2.2.2.1 c5 c6 W R C inp dd (by omega) c2 c3 c4 (fun k hk => ⟨(hV k (by omega)).1, (hV k (by omega)).2.1⟩)
    rw [sT_ms, sT_id b1 b2 b3] at hh
    refine hh.mono (fun v h' hq => ?_)
    obtain ⟨e1, g, W', R', C', e2, e3, e4⟩ := hq
    rw [sT_ms] at e2
    refine ⟨e1, x_A S 3 g, sT T (B f + 3) W' R' C', e2, OC.x3 rfl (fun j hj => ?_) e4, (hA.sT hf hs0 hb ⟨⟨hi, ho⟩, hS, h5, h6⟩ W' R' C').S rfl, ⟨fun k hk => sT_o (by have := hA.mono (f := 0) (g := f) (Nat.zero_le _) (by omega); omega), fun h => h.sT _ _ _ _⟩⟩
    rw [e3 j hj]
    exact congrArg iZ (zSm_c c2 c1.2.2.2.1 c6 hj (fun j hj => (d3 j hj).symm))
  · subst hi1
    refine ⟨(-1, 0, fun j => zPw q (inp 0) j), Or.inl (Or.inr (Or.inl ⟨d1, q, d2, ho, h6, c, rfl⟩)), fun dd hdd => Or.inr (Or.inl ⟨⟨_, at_ a1⟩, ?_⟩)⟩
    refine (P_evaluate_m (l := l) (G := G) S (x_ms M ++ T) dd (by omega) (20 + (B f + 1)) (20 + B f) o q (inp 0) ho ((ms_t M T _).trans a1) (a2.ms M) c (hV 0 (by decide)).1 (hV 0 (by decide)).2.1).mono (fun v h' hq => ?_)
    obtain ⟨e1, g, e2, e3, e4⟩ := hq
    exact ⟨e1, x_A S 3 g, T, e2, OC.x3 rfl e3 e4, hA.S rfl, TSm.refl B T⟩
  · subst hi1
    have hz := zPt_b (q := q) (K := K) (x := inp 0) c1.1 c3
    have hN := hV 0 (by decide)
    obtain ⟨p, p1, p2, p3, p4, p5⟩ := d3 _ hz.1
    have hzN : zN (zSt q K (inp 0)) := zlaid_N (d2.2.2 _ (by omega)).2
    obtain ⟨o', ho', h6', r, r1, r2⟩ := ih p p1 (by omega) (x_a S 4 0 (iZ (zSt q K (inp 0)))) T (in0 inp (zSt q K (inp 0))) (hA.S rfl) (hV.i0 hzN)
    have eo : o' = o := (nI_eq (by omega) (by omega)).mp (h6'.symm.trans p5)
    subst eo
    refine ⟨r, Or.inr ⟨d1, q, K, p, d2, c1, c2, c3, p2, by omega, hzN, r1.up (by omega)⟩, fun dd hdd => Or.inr (Or.inr (Or.inl ⟨⟨_, at_ a1⟩, ?_⟩))⟩
    obtain ⟨dd, rfl⟩ : ∃ d2, dd = d2 + 1 := ⟨dd - 1, by omega⟩
    have hc := r2 dd (by omega)
    have cm : ∀ {h' : List va_E}, (∃ S' T', h' = x_hM S' M T' ∧ OC (x_a S 4 0 (iZ (zSt q K (inp 0)))) S' o' r ∧ FA S' M T' B nf ∧ TSm B T T') → ∃ S' T', h' = x_hM S' M T' ∧ OC S S' o' r ∧ FA S' M T' B nf ∧ TSm B T T' := by
      intro h' ⟨S', T', e1, e2, e3⟩
      exact ⟨S', T', e1, e2.g4, e3⟩
    have tt : ∀ {c : va_E}, (x_hM (x_a S 4 0 (iZ (zSt q K (inp 0)))) M T)[153 + (20 + (B p + 1))]? = some c → (x_ms M ++ T)[20 + (B p + 1)]? = some c := fun {c} e => (x_tl _ _ _).symm.trans e
    rcases hc with ⟨⟨fs, g1⟩, g2⟩ | ⟨⟨fs, g1⟩, g2⟩ | ⟨⟨fs, g1⟩, g2⟩ | ⟨⟨fs, g1⟩, g2⟩
    · exact (Z_evaluateS_m (l := l) (G := G) S (x_ms M ++ T) dd (by omega) (20 + (B f + 1)) (20 + B f) (20 + (B f + 2)) K o' (20 + (B p + 1)) q (inp 0) F _ fs ((ms_t M T _).trans a1) ((ms_t M T _).trans a3) (a2.ms M) c1 c3 hN.1 hN.2.1 p3 (tt g1) g2).mono (fun v h' hq => ⟨hq.1, cm hq.2⟩)
    · exact (Z_evaluateP_m (l := l) (G := G) S (x_ms M ++ T) dd (by omega) (20 + (B f + 1)) (20 + B f) (20 + (B f + 2)) K o' (20 + (B p + 1)) q (inp 0) F _ fs ((ms_t M T _).trans a1) ((ms_t M T _).trans a3) (a2.ms M) c1 c3 hN.1 hN.2.1 p3 (tt g1) g2).mono (fun v h' hq => ⟨hq.1, cm hq.2⟩)
    · exact (Z_evaluateZ_m (l := l) (G := G) S (x_ms M ++ T) dd (by omega) (20 + (B f + 1)) (20 + B f) (20 + (B f + 2)) K o' (20 + (B p + 1)) q (inp 0) F _ fs ((ms_t M T _).trans a1) ((ms_t M T _).trans a3) (a2.ms M) c1 c3 hN.1 hN.2.1 p3 (tt g1) g2).mono (fun v h' hq => ⟨hq.1, cm hq.2⟩)
    · exact (Z_evaluateG_m (l := l) (G := G) S (x_ms M ++ T) dd (by omega) (20 + (B f + 1)) (20 + B f) (20 + (B f + 2)) K o' (20 + (B p + 1)) q (inp 0) F _ fs ((ms_t M T _).trans a1) ((ms_t M T _).trans a3) (a2.ms M) c1 c3 hN.1 hN.2.1 p3 (tt g1) g2).mono (fun v h' hq => ⟨hq.1, cm hq.2⟩)
  · have hp := prs_prg d5 d4.1 d4.2
    have hnm := prs_num d5 d4.1 d4.2
    have hDP : DP (x_ms M ++ T) (20 + (B f + 1)) (20 + B f) i o Q := ⟨20 + (B f + 2), 20 + (B f + 3), 20 + (B f + 4), 20 + (B f + 5), Wf, A, B', C, (ms_t M T _).trans a1, (ms_t M T _).trans a3, (ms_t M T _).trans a4, (ms_t M T _).trans a5, (ms_t M T _).trans a6, b1⟩
    have hin : ∀ k, k < i → zN (inp k) ∧ S.2.1 4 k = iZ (inp k) := fun k hk => ⟨(hV k (by omega)).1, (hV k (by omega)).2.1⟩
    rcases prg_run2 (nm := qm Q) pfS_0 pfS_1 pfS_37 pfS_38 hp.1 (i, uIn inp q, tNo) with ⟨Y, k, m, k1, k2, k3⟩ | ⟨cd, p, Y, x, m, k, k1, k2, k3, k4, k5, k6, k7⟩
    · refine ⟨(pend Y.1 Y.2.2 o, qn Q, fun j => zcut (Y.2.1 j) (q (2 * i + 2 * j)) (q (2 * i + 2 * j + 1))), Or.inl (Or.inr (Or.inr ⟨d1, i, n, k0, q, P0, Q, h24, hi, ho, h5, h6, d2, d3.1, d3.2, d4, d5, Or.inl ⟨Y, ⟨m, k3⟩, rfl⟩⟩)), fun dd hdd => Or.inr (Or.inr (Or.inr ⟨⟨_, at_ a1⟩, ?_⟩))⟩
      refine (G_evaluateS_m (l := l) (G := G) S (x_ms M ++ T) (20 + (B f + 1)) (20 + B f) i o q Q hi ho (a2.ms M) hDP hp.2.1.1 c inp hin hp.2.1.2.1 hnm dd (by omega) Y k k1 k2).mono (fun v h' hq => ?_)
      obtain ⟨e1, S', e2, e3, e4, e5⟩ := hq
      exact ⟨e1, S', T, e2, OC.tr e3 e4 (fun z => ⟨pend_z z, e5 z⟩), hA.S (by rw [e3.2.2]), TSm.refl B T⟩
    · have hcz := cdp_z k5 k1
      refine ⟨(cd, p, fun _ => 0), Or.inl (Or.inr (Or.inr ⟨d1, i, n, k0, q, P0, Q, h24, hi, ho, h5, h6, d2, d3.1, d3.2, d4, d5, Or.inr ⟨cd, p, hcz, ⟨m, x, k6, k7⟩, rfl⟩⟩)), fun dd hdd => Or.inr (Or.inr (Or.inr ⟨⟨_, at_ a1⟩, ?_⟩))⟩
      refine (G_evaluateF_m (l := l) (G := G) S (x_ms M ++ T) (20 + (B f + 1)) (20 + B f) i o q Q hi ho (a2.ms M) hDP hp.2.1.1 c inp hin hp.2.1.2.1 hnm dd (by omega) cd p k Y k1 hcz k2 k3 k4 k5).mono (fun v h' hq => ?_)
      obtain ⟨e1, S', e2, e3, e4, e5⟩ := hq
      exact ⟨e1, S', T, e2, OC.tr e3 (fun z => absurd z k1) (fun z => ⟨hcz, e4, e5⟩), hA.S (by rw [e3.2.2]), TSm.refl B T⟩
