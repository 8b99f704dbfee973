/-! ONE STEP, said once -/
theorem AM.mono {l : Launch} {V : ax_V} {G : ax_G} {y : MethodName} {cc : ByteArray} {maxL : Nat} {ret : Option FieldType} {d mc ms : Nat} {As : List Value} {h : List va_E} {Qa Qb : Option Value → List va_E → Prop} (hA : AM l V G y cc maxL ret d mc ms As h Qa) (g : ∀ v h', Qa v h' → Qb v h') : AM l V G y cc maxL ret d mc ms As h Qb := by
  intro hI p e h1 h2 h3 s m args below h4 h5 h6 h7
  obtain ⟨n, o, a1, a2, a3, ⟨⟨v, h', b1, b2, b3⟩, a5⟩⟩ := hA hI p e h1 h2 h3 s m args below h4 h5 h6 h7
  exact ⟨n, o, a1, a2, a3, ⟨⟨v, h', b1, g v h' b2, b3⟩, a5⟩⟩
theorem TK.num {M : x_M} {f n w : Nat} {Q : pP} (h : TK M f n Q) (hw : w < qn Q) (h2 : qc Q w = 2) : zN (qm Q w) := by
  obtain ⟨s, e, t, -, -⟩ := h.2.2.2 w hw
  exact tok_nv t ((wcd_2 t.1).mp (t.2.2.2.1.symm.trans h2))
theorem pch_2 {n : Nat} {u : Nat → Int} {t : Nat → Bool} (h : (pchoice n u t).1 = -1) : (pchoice n u t).2 = (n - 1, u, t) := by
  unfold pchoice at h ⊢
  by_cases z : n < 1
  · rw [if_pos z] at h; exact absurd (show (9 : Int) = -1 from h) (by decide)
  · rw [if_neg z] at h ⊢
    by_cases y : t (n - 1) = false
    · rw [if_pos y] at h; exact absurd (show (10 : Int) = -1 from h) (by decide)
    · rw [if_neg y]
theorem pf_p {w n : Nat} {x : Int} {u : Nat → Int} {t : Nat → Bool} : pfS w x (n, u, t) = pS w x n u t := rfl
theorem M_nextS {l : Launch} {G : ax_G} (S : x_S) (M : x_M) (tl : List va_E) (f n : Nat) (Q : pP) (x y : Nat × List Nat × pM) (hf : f < 24) (hT : TK M f n Q) (h12 : ∀ j, j ≤ qn Q → dp (qc Q) j ≤ 12) (h38 : ∀ j, j < qn Q → qc Q j ≤ 38) (hG : gd M) (hW : WS x.2.2.1 x.2.2.2.1 x.2.2.2.2) (hM : MS M x.2.2.1 x.2.2.2.1 x.2.2.2.2) (hR : RT M x.2.1) (h : mstp pfS (qc Q) (qm Q) (qn Q) x y) :
    AM l VV G M_next_y M_next_c 3 (some .int) 8 0 0 [.ref 153, .int (nI f), .int (nI x.1)] (x_hM S M tl) (fun v h' => nx S tl M y v h') ∧ WS y.2.2.1 y.2.2.2.1 y.2.2.2.2 := by
  obtain ⟨w, st, n0, u, t⟩ := x
  obtain ⟨⟨hw, hl⟩, h⟩ := h
  have hw' : w < qn Q := hw
  have hl' : (st.length : Int) + 1 = dp (qc Q) w := hl
  have hd := h12 w (by omega)
  have hst : st.length < 20 := by omega
  have hPP : PF M (y_i M 11 (nI w)) := (PF.refl M).i (k := 11) _ (by decide)
  have hRP : RT (y_i M 11 (nI w)) st := RT.fr hR (y_in M (k := 11) (j := 10) (nI w) (by decide)) rfl
  rcases h with ⟨hc, hs, rfl⟩ | ⟨hc, r, t', hs, rfl⟩ | ⟨h2, h37, hq, rfl⟩ | ⟨e, hi, h37, hN, hq, rfl⟩ | ⟨e, g, hi, h0, hi2, hN, hq, rfl⟩
  · have hs' : st = [] := hs
    subst hs'
    exact ⟨(M_next1_m S M tl f w n Q hf hT hw' hc hR.1).mono (fun v h' q => ⟨M, q.2, q.1, PF.refl M, hG, hM, hR⟩), hW⟩
  · have hs' : st = r :: t' := hs
    subst hs'
    refine ⟨(M_next2_m S M tl f w n Q hf hT hw' hc r t' hR (by rw [List.length_cons] at hst; omega)).mono (fun v h' q => ⟨_, q.2, q.1, (PF.refl M).i (k := 10) _ (by decide), gd_i (by decide) hG, MS.fr hM (y_in M (k := 10) (j := 9) _ (by decide)) rfl rfl, RT.pop hR ?_ rfl⟩), hW⟩
    rw [y_ig, hR.1]
    exact pk_sub (b := 1) (by rw [List.length_cons]; omega)
  · have h2' : 2 ≤ qc Q w := h2
    have h37' : qc Q w < 37 := h37
    have hq' : (pS (qc Q w) (qm Q w) n0 u t).1 = -1 := hq
    refine ⟨?_, WS_S hW (h38 w hw') hq'⟩
    have fin : ∀ {v : Option Value} {h' : List va_E}, v = some (.int (nI (w + 1))) ∧ mp S tl (y_i M 11 (nI w)) (pS (qc Q w) (qm Q w) n0 u t) h' → nx S tl M (w + 1, st, (pfS (qc Q w) (qm Q w) (n0, u, t)).2) v h' := by
      rintro v h' ⟨rfl, M', rfl, m1, m2, -⟩
      exact ⟨M', rfl, rfl, hPP.trans (PF.of m1), (m2 hq').1, (m2 hq').2, hRP.mf m1⟩
    by_cases z : qc Q w = 2
    · have := M_next4_m (l := l) (G := G) S M tl f w n Q hf hT hw' z (zN_L (hT.num hw' z)) n0 u t hG hW hM
      rw [← z] at this
      exact this.mono (fun v h' q => fin q)
    · exact (M_next5_m S M tl f w n Q hf hT hw' ⟨by omega, h37'⟩ n0 u t hG hW hM).mono (fun v h' q => fin q)
  · have hq' : (pchoice n0 u t).1 = -1 := hq
    refine ⟨(M_next3_m S M tl f w e e n true st Q hf hT hw' hi.2.1 hi (decide_eq_true h37) (fun _ => rfl) (fun z => by cases z) hN (Nat.le_refl _) hR hst n0 u t hG hW hM).mono (fun v h' q => ?_), ?_⟩
    · rcases q with ⟨-, M', rfl, rfl, q1, q2, q3, q4⟩ | ⟨q, -⟩
      · have hp := pup_1 hW hq'
        refine ⟨M', rfl, ?_, q1, q2, ?_, ?_⟩
        · show _ = some (Value.int (nI (if pup (n0, u, t) = true then (w + 1, (e + 2) :: st, (pfS 37 0 (n0, u, t)).2) else (e + 2, st, (pfS 37 0 (n0, u, t)).2)).1))
          rw [hp]
          by_cases z : u (n0 - 1) = 1
          · rw [if_pos z, if_pos (decide_eq_true z)]
          · rw [if_neg z, if_pos rfl, if_neg (by rw [decide_eq_false z]; decide)]
        · rw [show (if pup (n0, u, t) = true then (w + 1, (e + 2) :: st, (pfS 37 0 (n0, u, t)).2) else (e + 2, st, (pfS 37 0 (n0, u, t)).2)).2.2 = (pchoice n0 u t).2 by split <;> rfl, pch_2 hq']
          exact q3
        · show RT M' (if pup (n0, u, t) = true then (w + 1, (e + 2) :: st, (pfS 37 0 (n0, u, t)).2) else (e + 2, st, (pfS 37 0 (n0, u, t)).2)).2.1
          rw [hp]
          by_cases z : u (n0 - 1) = 1
          · rw [if_pos (Or.inl z)] at q4; rw [if_pos (decide_eq_true z)]; exact q4
          · rw [if_neg (fun y => y.elim z (fun y => by cases y))] at q4; rw [if_neg (by rw [decide_eq_false z]; decide)]; exact q4
      · exact absurd hq' q
    · rw [show (if pup (n0, u, t) = true then (w + 1, (e + 2) :: st, (pfS 37 0 (n0, u, t)).2) else (e + 2, st, (pfS 37 0 (n0, u, t)).2)).2.2 = (pchoice n0 u t).2 by split <;> rfl]
      exact WS_cho hW hq'
  · have hq' : (pchoice n0 u t).1 = -1 := hq
    refine ⟨(M_next3_m S M tl f w e g n false st Q hf hT hw' hi.2.1 hi (decide_eq_false (by omega)) (fun z => by cases z) (fun _ => hi2) hN (by have := hi2.1; omega) hR hst n0 u t hG hW hM).mono (fun v h' q => ?_), WS_cho hW hq'⟩
    rcases q with ⟨-, M', rfl, rfl, q1, q2, q3, q4⟩ | ⟨q, -⟩
    · have hp := pup_1 hW hq'
      refine ⟨M', rfl, ?_, q1, q2, ?_, ?_⟩
      · show _ = some (Value.int (nI (if pup (n0, u, t) = true then w + 1 else e + 2)))
        rw [hp]
        by_cases z : u (n0 - 1) = 1
        · rw [if_pos z, if_pos (decide_eq_true z)]
        · rw [if_neg z, if_neg (by decide), if_neg (by rw [decide_eq_false z]; decide)]
      · show MS M' (pchoice n0 u t).2.1 (pchoice n0 u t).2.2.1 (pchoice n0 u t).2.2.2
        rw [pch_2 hq']
        exact q3
      · rw [if_pos (Or.inr rfl)] at q4
        exact q4
    · exact absurd hq' q
theorem M_nextF {l : Launch} {G : ax_G} (S : x_S) (M : x_M) (tl : List va_E) (f n : Nat) (Q : pP) (x : Nat × List Nat × pM) (c : Int) (p : Nat) (hf : f < 24) (hT : TK M f n Q) (h12 : ∀ j, j ≤ qn Q → dp (qc Q) j ≤ 12) (hG : gd M) (hW : WS x.2.2.1 x.2.2.2.1 x.2.2.2.2) (hM : MS M x.2.2.1 x.2.2.2.1 x.2.2.2.2) (hR : RT M x.2.1) (h : mflt pfS (qc Q) (qm Q) (qn Q) x c p) :
    AM l VV G M_next_y M_next_c 3 (some .int) 8 0 0 [.ref 153, .int (nI f), .int (nI x.1)] (x_hM S M tl) (fun v h' => nxF S tl M c p v h') := by
  obtain ⟨w, st, n0, u, t⟩ := x
  obtain ⟨⟨hw, hl⟩, hc, h⟩ := h
  have hw' : w < qn Q := hw
  have hl' : (st.length : Int) + 1 = dp (qc Q) w := hl
  have hd := h12 w (by omega)
  have hst : st.length < 20 := by omega
  have hPP : PF M (y_i M 11 (nI w)) := (PF.refl M).i (k := 11) _ (by decide)
  rcases h with ⟨h2, h37, hq, hp⟩ | ⟨e, hi, h37, hN, hq, rfl⟩ | ⟨e, g, hi, h0, hi2, hN, hq, rfl⟩
  · rw [show p = w from hp]
    have h2' : 2 ≤ qc Q w := h2
    have h37' : qc Q w < 37 := h37
    have hq' : (pS (qc Q w) (qm Q w) n0 u t).1 = c := hq
    have fin : ∀ {v : Option Value} {h' : List va_E}, v = some (.int (nI (w + 1))) ∧ mp S tl (y_i M 11 (nI w)) (pS (qc Q w) (qm Q w) n0 u t) h' → nxF S tl M c w v h' := by
      rintro v h' ⟨rfl, M', rfl, m1, -, m2⟩
      have m3 := m2 (by rw [hq']; exact hc)
      exact ⟨M', rfl, ⟨_, rfl⟩, hPP.trans (PF.of m1), by rw [← hq']; exact m3.1, m3.2.trans (y_ig M 11 (nI w))⟩
    by_cases z : qc Q w = 2
    · have := M_next4_m (l := l) (G := G) S M tl f w n Q hf hT hw' z (zN_L (hT.num hw' z)) n0 u t hG hW hM
      rw [← z] at this
      exact this.mono (fun v h' q => fin q)
    · exact (M_next5_m S M tl f w n Q hf hT hw' ⟨by omega, h37'⟩ n0 u t hG hW hM).mono (fun v h' q => fin q)
  · have hq' : (pchoice n0 u t).1 = c := hq
    refine (M_next3_m S M tl f w e e n true st Q hf hT hw' hi.2.1 hi (decide_eq_true h37) (fun _ => rfl) (fun z => by cases z) hN (Nat.le_refl _) hR hst n0 u t hG hW hM).mono (fun v h' q => ?_)
    rcases q with ⟨q, -⟩ | ⟨-, M', rfl, q0, q1, q2, q3⟩
    · exact absurd (hq'.symm.trans q) hc
    · exact ⟨M', rfl, q0, q1, by rw [← hq']; exact q2, q3⟩
  · have hq' : (pchoice n0 u t).1 = c := hq
    refine (M_next3_m S M tl f w e g n false st Q hf hT hw' hi.2.1 hi (decide_eq_false (by omega)) (fun z => by cases z) (fun _ => hi2) hN (by have := hi2.1; omega) hR hst n0 u t hG hW hM).mono (fun v h' q => ?_)
    rcases q with ⟨q, -⟩ | ⟨-, M', rfl, q0, q1, q2, q3⟩
    · exact absurd (hq'.symm.trans q) hc
    · exact ⟨M', rfl, q0, q1, by rw [← hq']; exact q2, q3⟩
