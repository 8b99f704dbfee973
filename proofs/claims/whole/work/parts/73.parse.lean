/-! THE READING of a row, word by word -/
/-- the word that s to e is: 2 where it is none of the others -/
def wcd (sg : Nat → Nat) (s e : Nat) : Nat := if cw sg s e = 39 then 2 else cw sg s e
def wnm (sg : Nat → Nat) (s e : Nat) : Int := if cw sg s e = 39 then nv sg s e else 0
noncomputable def perr (sg : Nat → Nat) (P : pP) (s e : Nat) : Int := if 400 ≤ qn P then 5 else if dc (pmis P (cw sg s e)) = true then 7 else if cw sg s e = 0 ∧ 12 ≤ qd P then 6 else if cw sg s e = 39 then nr sg s e else -1
def pfin (n : Nat) (P : pP) : Int × Nat × pP := if qn P = 0 ∨ 0 < qd P then (7, n, P) else (-1, n, P)
noncomputable def prs (sg : Nat → Nat) (n : Nat) : Nat → Nat → pP → Int × Nat × pP
  | 0, _, P => pfin n P
  | f + 1, s, P => if s < n then (if perr sg P s (we sg n s) ≠ -1 then (perr sg P s (we sg n s), s, P) else prs sg n f (ws sg n (we sg n s)) (pput P (wcd sg s (we sg n s)) (wnm sg s (we sg n s)))) else pfin n P
theorem prs_err {sg : Nat → Nat} {n f s : Nat} {P : pP} (h : s < n) (g : perr sg P s (we sg n s) ≠ -1) : prs sg n (f + 1) s P = (perr sg P s (we sg n s), s, P) := by
  show (if s < n then _ else _) = _
  rw [if_pos h, if_pos g]
theorem prs_go {sg : Nat → Nat} {n f s : Nat} {P : pP} (h : s < n) (g : perr sg P s (we sg n s) = -1) : prs sg n (f + 1) s P = prs sg n f (ws sg n (we sg n s)) (pput P (wcd sg s (we sg n s)) (wnm sg s (we sg n s))) := by
  show (if s < n then _ else _) = _
  rw [if_pos h, if_neg (fun z => z g)]
theorem prs_end {sg : Nat → Nat} {n f s : Nat} {P : pP} (h : ¬s < n) : prs sg n f s P = pfin n P := by
  cases f with
  | zero => rfl
  | succ f => show (if s < n then _ else _) = _; rw [if_neg h]
/-- the tokens: each word read stands somewhere in the row -/
def tok (sg : Nat → Nat) (n : Nat) (P : pP) (j s e : Nat) : Prop := s < e ∧ e ≤ n ∧ e = we sg n s ∧ qc P j = wcd sg s e ∧ (cw sg s e = 39 → isn sg s e ∧ nwh sg s e ≤ 16383 ∧ qm P j = nv sg s e)
theorem tok_put {sg : Nat → Nat} {n : Nat} {P : pP} {w : Nat} {x : Int} {j s e : Nat} (h : tok sg n P j s e) (hj : j < qn P) : tok sg n (pput P w x) j s e := by
  obtain ⟨h1, h2, h3, h4, h5⟩ := h
  refine ⟨h1, h2, h3, ?_, fun z => ?_⟩
  · rw [pput_c, va_up_ne _ _ (by omega)]; exact h4
  · rw [pput_m, va_up_ne _ _ (by omega)]; exact h5 z
theorem nr_ok {sg : Nat → Nat} {s e : Nat} (h : nr sg s e = -1) : isn sg s e ∧ nwh sg s e ≤ 16383 := by
  unfold nr at h
  split at h
  · exact absurd h (by decide)
  · rename_i z
    split at h
    · exact absurd h (by decide)
    · exact ⟨Classical.byContradiction fun y => z (dc_f y), by omega⟩
theorem perr_ok {sg : Nat → Nat} {P : pP} {s e : Nat} (h : perr sg P s e = -1) : qn P < 400 ∧ ¬pmis P (cw sg s e) ∧ (cw sg s e = 0 → qd P < 12) ∧ (cw sg s e = 39 → isn sg s e ∧ nwh sg s e ≤ 16383) := by
  unfold perr at h
  by_cases a : 400 ≤ qn P
  · rw [if_pos a] at h; exact absurd h (by decide)
  · rw [if_neg a] at h
    by_cases b : dc (pmis P (cw sg s e)) = true
    · rw [if_pos b] at h; exact absurd h (by decide)
    · rw [if_neg b] at h
      by_cases c : cw sg s e = 0 ∧ 12 ≤ qd P
      · rw [if_pos c] at h; exact absurd h (by decide)
      · rw [if_neg c] at h
        refine ⟨by omega, fun z => b (dc_t z), fun z => by omega, fun z => ?_⟩
        rw [if_pos z] at h
        exact nr_ok h
theorem pmis_2 {P : pP} (h : ¬pmis P 39) : ¬pmis P 2 := by
  unfold pmis at h ⊢
  by_cases z : qd P = 0
  · rw [if_pos z] at h ⊢; omega
  · rw [if_neg z] at h ⊢
    exact h
theorem perr_put {sg : Nat → Nat} {P : pP} {s e : Nat} (h : perr sg P s e = -1) (hP : PI P) : PI (pput P (wcd sg s e) (wnm sg s e)) := by
  obtain ⟨h1, h2, h3, h4⟩ := perr_ok h
  have l := cw_le sg s e
  unfold wcd
  by_cases z : cw sg s e = 39
  · rw [if_pos z]
    exact PI_put hP h1 (by decide) (pmis_2 (by rw [← z]; exact h2)) (fun y => absurd y (by decide))
  · rw [if_neg z]
    exact PI_put hP h1 (by omega) h2 h3
theorem perr_tok {sg : Nat → Nat} {n : Nat} {P : pP} {s : Nat} (hs : s < n) (h : perr sg P s (we sg n s) = -1) : tok sg n (pput P (wcd sg s (we sg n s)) (wnm sg s (we sg n s))) (qn P) s (we sg n s) := by
  obtain ⟨h1, h2, h3, h4⟩ := perr_ok h
  refine ⟨we_gt sg n s, we_le hs, rfl, ?_, fun z => ?_⟩
  · rw [pput_c, va_up_self]
  · rw [pput_m, va_up_self]
    exact ⟨(h4 z).1, (h4 z).2, if_pos z⟩
theorem prs_ok {sg : Nat → Nat} {n : Nat} : ∀ {f s : Nat} {P Q : pP} {k : Nat}, prs sg n f s P = (-1, k, Q) → PI P → (∀ j, j < qn P → ∃ s e, tok sg n P j s e) → PI Q ∧ qd Q = 0 ∧ 0 < qn Q ∧ ∀ j, j < qn Q → ∃ s e, tok sg n Q j s e := by
  intro f
  have fin : ∀ {P Q : pP} {k : Nat}, pfin n P = (-1, k, Q) → PI P → (∀ j, j < qn P → ∃ s e, tok sg n P j s e) → PI Q ∧ qd Q = 0 ∧ 0 < qn Q ∧ ∀ j, j < qn Q → ∃ s e, tok sg n Q j s e := by
    intro P Q k h hP ht
    unfold pfin at h
    split at h
    · exact absurd (show (7 : Int) = -1 from congrArg Prod.fst h) (by decide)
    · have e : P = Q := congrArg (fun x : Int × Nat × pP => x.2.2) h
      subst e
      exact ⟨hP, by omega, by omega, ht⟩
  induction f with
  | zero => intro s P Q k h hP ht; exact fin h hP ht
  | succ f ih =>
    intro s P Q k h hP ht
    by_cases hs : s < n
    · by_cases g : perr sg P s (we sg n s) = -1
      · rw [prs_go hs g] at h
        refine ih h (perr_put g hP) (fun j l => ?_)
        rw [pput_n] at l
        by_cases z : j = qn P
        · rw [z]; exact ⟨_, _, perr_tok hs g⟩
        · obtain ⟨s', e', t⟩ := ht j (by omega)
          exact ⟨s', e', tok_put t (by omega)⟩
      · rw [prs_err hs g] at h
        exact absurd (congrArg Prod.fst h) g
    · rw [prs_end hs] at h
      exact fin h hP ht
theorem prs_prg {sg : Nat → Nat} {n k : Nat} {P Q : pP} {s : Nat} (h : prs sg n 401 s P = (-1, k, Q)) (h0 : qn P = 0) (h1 : qd P = 0) : prg (qc Q) (qt Q) (qe Q) (qn Q) ∧ PI Q ∧ qd Q = 0 ∧ ∀ j, j < qn Q → ∃ s e, tok sg n Q j s e := by
  have hP : PI P := by
    refine ⟨by omega, fun j l => by omega, by rw [h0, h1]; rfl, fun j l => ?_, Or.inl ⟨h1, Or.inl h0⟩⟩
    rw [show j = 0 by omega]; exact (by decide : (0 : Int) ≤ 12)
  obtain ⟨a, b, c, d⟩ := prs_ok h hP (fun j l => by omega)
  refine ⟨?_, a, b, d⟩
  rcases a.2.2.2.2 with ⟨_, z | z⟩ | ⟨z, _⟩
  · omega
  · exact z
  · omega
theorem tok_nv {sg : Nat → Nat} {n : Nat} {P : pP} {j s e : Nat} (h : tok sg n P j s e) (g : cw sg s e = 39) : -1073741824 ≤ qm P j ∧ qm P j ≤ 1073741824 := by
  obtain ⟨_, _, _, _, h5⟩ := h
  obtain ⟨a, b, c⟩ := h5 g
  have := nfr_lt a
  rw [c]
  unfold nv
  split <;> omega
