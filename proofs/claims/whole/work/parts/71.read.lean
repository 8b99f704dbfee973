/-! READING: what is kept while the words of a row are read -/
def BK (cs on ow : Nat → Nat) (a b : Nat) : Prop := a + 2 ≤ b ∧ cs a = 0 ∧ SG cs on ow (a + 1) (b - 1) ∧ cs (b - 1) = 1
theorem BK.frame {cs on ow cs' on' ow' : Nat → Nat} {a b : Nat} (h : BK cs on ow a b) (f : ∀ j, a ≤ j → j < b → cs' j = cs j ∧ on' j = on j ∧ ow' j = ow j) : BK cs' on' ow' a b := by
  obtain ⟨h1, h2, h3, h4⟩ := h
  have f1 := (f a (by omega) (by omega)).1
  have f2 := (f (b - 1) (by omega) (by omega)).1
  exact ⟨h1, by omega, h3.frame (fun j _ _ => f j (by omega) (by omega)), by omega⟩
/-- the braces that stand open at depth i, with what they hold up to e -/
def Fr (cs on ow wt op ft sd : Nat → Nat) (i e : Nat) : Prop := op i < e ∧ cs (op i) = 0 ∧
  ((wt i = 0 ∧ SG cs on ow (op i + 1) e) ∨ (wt i = 1 ∧ SG cs on ow (op i + 1) (ft i) ∧ BK cs on ow (ft i) e) ∨ (wt i = 2 ∧ SG cs on ow (op i + 1) (ft i) ∧ BK cs on ow (ft i) (sd i) ∧ BK cs on ow (sd i) e))
theorem Fr.frame {cs on ow wt op ft sd cs' on' ow' wt' op' ft' sd' : Nat → Nat} {i e : Nat} (h : Fr cs on ow wt op ft sd i e) (f : ∀ j, j < e → cs' j = cs j ∧ on' j = on j ∧ ow' j = ow j) (g1 : wt' i = wt i) (g2 : op' i = op i) (g3 : ft' i = ft i) (g4 : sd' i = sd i) : Fr cs' on' ow' wt' op' ft' sd' i e := by
  obtain ⟨h1, h2, h3⟩ := h
  unfold Fr
  rw [g1, g2, g3, g4]
  refine ⟨h1, ((f _ h1).1.trans h2), ?_⟩
  rcases h3 with ⟨a, b⟩ | ⟨a, b, c⟩ | ⟨a, b, c, d⟩
  · exact Or.inl ⟨a, b.frame (fun j _ l => f j l)⟩
  · have := c.1
    exact Or.inr (Or.inl ⟨a, b.frame (fun j _ l => f j (by omega)), c.frame (fun j _ l => f j l)⟩)
  · have := c.1
    have := d.1
    exact Or.inr (Or.inr ⟨a, b.frame (fun j _ l => f j (by omega)), c.frame (fun j _ l => f j (by omega)), d.frame (fun j _ l => f j l)⟩)
/-- what is kept: count, depth, waiting, opened, first, second, words, numbers, onward, otherwise -/
abbrev pP : Type := Nat × Nat × (Nat → Nat) × (Nat → Nat) × (Nat → Nat) × (Nat → Nat) × (Nat → Nat) × (Nat → Int) × (Nat → Nat) × (Nat → Nat)
def qn (P : pP) : Nat := P.1
def qd (P : pP) : Nat := P.2.1
def qw (P : pP) : Nat → Nat := P.2.2.1
def qo (P : pP) : Nat → Nat := P.2.2.2.1
def qf (P : pP) : Nat → Nat := P.2.2.2.2.1
def qs (P : pP) : Nat → Nat := P.2.2.2.2.2.1
def qc (P : pP) : Nat → Nat := P.2.2.2.2.2.2.1
def qm (P : pP) : Nat → Int := P.2.2.2.2.2.2.2.1
def qt (P : pP) : Nat → Nat := P.2.2.2.2.2.2.2.2.1
def qe (P : pP) : Nat → Nat := P.2.2.2.2.2.2.2.2.2
/-- a word is put: every word -/
def pw (P : pP) (w : Nat) (x : Int) : pP := (qn P + 1, qd P, qw P, qo P, qf P, qs P, va_up (qc P) (qn P) w, va_up (qm P) (qn P) x, va_up (qt P) (qn P) (qn P + 1), va_up (qe P) (qn P) (qn P + 1))
def pwo (P : pP) : pP := (qn P, qd P + 1, va_up (qw P) (qd P + 1) 0, va_up (qo P) (qd P + 1) (qn P - 1), qf P, qs P, qc P, qm P, qt P, qe P)
def pwc (P : pP) : pP := (qn P, qd P - 1, va_up (qw P) (qd P - 1) (qw P (qd P - 1) + 1), qo P, if qw P (qd P - 1) = 0 then va_up (qf P) (qd P - 1) (qo P (qd P)) else qf P, if qw P (qd P - 1) = 0 then qs P else va_up (qs P) (qd P - 1) (qo P (qd P)), qc P, qm P, qt P, qe P)
def pwj (P : pP) : pP := (qn P, qd P, va_up (qw P) (qd P) 0, qo P, qf P, qs P, qc P, qm P,
  (if qw P (qd P) = 2 then va_up (va_up (va_up (va_up (qt P) (qf P (qd P)) (qn P - 1)) (qn P - 1) (qf P (qd P) + 1)) (qn P - 2) (qn P)) (qs P (qd P) - 1) (qn P) else va_up (va_up (va_up (qt P) (qf P (qd P)) (qn P - 1)) (qn P - 1) (qf P (qd P) + 1)) (qn P - 2) (qn P)),
  if qw P (qd P) = 2 then va_up (qe P) (qn P - 1) (qs P (qd P) + 1) else qe P)
def pput (P : pP) (w : Nat) (x : Int) : pP := if w = 0 then pwo (pw P w x) else if w = 1 then pwc (pw P w x) else if 37 ≤ w then pwj (pw P w x) else pw P w x
/-- whether word w (39: none of the words) may not stand here -/
def pmis (P : pP) (w : Nat) : Prop := if qd P = 0 then ¬(w = 0 ∧ qn P = 0) else if w = 37 then qw P (qd P) ≠ 1 else if w = 38 then qw P (qd P) ≠ 2 else if w = 0 then qw P (qd P) = 2 else qw P (qd P) ≠ 0
def PI (P : pP) : Prop := qn P ≤ 400 ∧ (∀ j, j < qn P → qc P j ≤ 38) ∧ dp (qc P) (qn P) = qd P ∧ (∀ j, j ≤ qn P → dp (qc P) j ≤ 12) ∧
  ((qd P = 0 ∧ (qn P = 0 ∨ prg (qc P) (qt P) (qe P) (qn P)))
  ∨ (1 ≤ qd P ∧ qo P 1 = 0 ∧ qt P 0 = 1 ∧ (∀ i j, 1 ≤ i → i ≤ j → j ≤ qd P → qo P i ≤ qo P j) ∧ (∀ i, 1 ≤ i → i < qd P → Fr (qc P) (qt P) (qe P) (qw P) (qo P) (qf P) (qs P) i (qo P (i + 1)) ∧ qw P i ≤ 1) ∧ Fr (qc P) (qt P) (qe P) (qw P) (qo P) (qf P) (qs P) (qd P) (qn P)))
theorem dp_fr {cs cs' : Nat → Nat} : ∀ {k : Nat}, (∀ j, j < k → cs' j = cs j) → dp cs' k = dp cs k := by
  intro k
  induction k with
  | zero => intro _; rfl
  | succ k ih =>
    intro f
    show dp cs' k + _ = dp cs k + _
    rw [ih (fun j l => f j (by omega)), f k (by omega)]
theorem pput_n (P : pP) (w : Nat) (x : Int) : qn (pput P w x) = qn P + 1 := by
  unfold pput; split
  · rfl
  · split
    · rfl
    · split <;> rfl
theorem pput_c (P : pP) (w : Nat) (x : Int) : qc (pput P w x) = va_up (qc P) (qn P) w := by
  unfold pput; split
  · rfl
  · split
    · rfl
    · split <;> rfl
theorem pput_m (P : pP) (w : Nat) (x : Int) : qm (pput P w x) = va_up (qm P) (qn P) x := by
  unfold pput; split
  · rfl
  · split
    · rfl
    · split <;> rfl
theorem pput_d (P : pP) (w : Nat) (x : Int) : qd (pput P w x) = if w = 0 then qd P + 1 else if w = 1 then qd P - 1 else qd P := by
  unfold pput; split
  · rfl
  · split
    · rfl
    · split <;> rfl
/-- up to the last word nothing else has changed in the tables -/
theorem up_fr {α : Type} {f : Nat → α} {k : Nat} {v : α} : ∀ j, j < k → va_up f k v j = f j := fun j l => va_up_ne f v (by omega)
theorem PI_put {P : pP} {w : Nat} {x : Int} (h : PI P) (hn : qn P < 400) (hw : w ≤ 38) (hm : ¬pmis P w) (hd : w = 0 → qd P < 12) : PI (pput P w x) := by
  obtain ⟨h1, h2, h3, h4, h5⟩ := h
  have hdp : dp (va_up (qc P) (qn P) w) (qn P) = dp (qc P) (qn P) := dp_fr up_fr
  have hcs : va_up (qc P) (qn P) w (qn P) = w := va_up_self _ _ _
  have hD : (w = 1 → 1 ≤ qd P) := by
    intro z
    rcases h5 with ⟨a, _⟩ | ⟨a, _⟩
    · exfalso; apply hm; unfold pmis; rw [if_pos a]; omega
    · exact a
  have e3 : dp (va_up (qc P) (qn P) w) (qn P + 1) = (if w = 0 then qd P + 1 else if w = 1 then qd P - 1 else qd P : Nat) := by
    show dp (va_up (qc P) (qn P) w) (qn P) + (if va_up (qc P) (qn P) w (qn P) = 0 then 1 else if va_up (qc P) (qn P) w (qn P) = 1 then -1 else 0) = _
    rw [hcs, hdp, h3]
    by_cases z : w = 0
    · rw [if_pos z, if_pos z]; omega
    · rw [if_neg z, if_neg z]
      by_cases z1 : w = 1
      · have := hD z1
        rw [if_pos z1, if_pos z1]; omega
      · rw [if_neg z1, if_neg z1]; omega
  have hd12 : (if w = 0 then qd P + 1 else if w = 1 then qd P - 1 else qd P : Nat) ≤ 12 := by
    have := h4 (qn P) (Nat.le_refl _)
    by_cases z : w = 0
    · have := hd z; rw [if_pos z]; omega
    · rw [if_neg z]
      by_cases z1 : w = 1
      · rw [if_pos z1]; omega
      · rw [if_neg z1]; omega
  refine ⟨by rw [pput_n]; omega, fun j l => ?_, by rw [pput_n, pput_c, pput_d]; exact e3, fun j l => ?_, ?_⟩
  · rw [pput_n] at l
    rw [pput_c]
    by_cases z : j = qn P
    · rw [z, hcs]; exact hw
    · rw [va_up_ne _ _ z]; exact h2 j (by omega)
  · rw [pput_n] at l
    rw [pput_c]
    by_cases z : j = qn P + 1
    · rw [z, e3]; omega
    · rw [dp_fr (fun i l' => up_fr i (by omega))]; exact h4 j (by omega)
  · -- the shape
    rcases h5 with ⟨a, b⟩ | ⟨a1, a2, a3, a4, a5, a6⟩
    · -- the first word
      have hw0 : w = 0 ∧ qn P = 0 := by
        apply Classical.byContradiction
        intro z; apply hm; unfold pmis; rw [if_pos a]; exact z
      refine Or.inr ?_
      rw [show pput P w x = pwo (pw P w x) from if_pos hw0.1]
      have o1 : qo (pwo (pw P w x)) 1 = 0 := by
        show va_up (qo P) (qd P + 1) (qn P + 1 - 1) 1 = 0
        rw [a, va_up_self]; omega
      refine ⟨?_, o1, ?_, fun i j l1 l2 l3 => ?_, fun i l1 l2 => ?_, ?_, ?_, ?_⟩
      · show 1 ≤ qd P + 1; omega
      · show va_up (qt P) (qn P) (qn P + 1) 0 = 1
        rw [hw0.2, va_up_self]
      · have : j ≤ qd P + 1 := l3
        have : i = j := by omega
        rw [this]; exact Nat.le_refl _
      · have : i < qd P + 1 := l2
        omega
      · show va_up (qo P) (qd P + 1) (qn P + 1 - 1) (qd P + 1) < qn P + 1
        rw [va_up_self]; omega
      · show va_up (qc P) (qn P) w (va_up (qo P) (qd P + 1) (qn P + 1 - 1) (qd P + 1)) = 0
        rw [va_up_self, show qn P + 1 - 1 = qn P by omega, va_up_self]; exact hw0.1
      · refine Or.inl ⟨?_, ?_⟩
        · show va_up (qw P) (qd P + 1) 0 (qd P + 1) = 0
          exact va_up_self _ _ _
        · show SG _ _ _ (va_up (qo P) (qd P + 1) (qn P + 1 - 1) (qd P + 1) + 1) (qn P + 1)
          rw [va_up_self, show qn P + 1 - 1 + 1 = qn P + 1 by omega]
          exact SG.nil _ _ _ _
    · have hop : ∀ i, 1 ≤ i → i ≤ qd P → qo P i < qn P := fun i l1 l2 => Nat.lt_of_le_of_lt (a4 i (qd P) l1 l2 (Nat.le_refl _)) a6.1
      have hmm : ¬(if w = 37 then qw P (qd P) ≠ 1 else if w = 38 then qw P (qd P) ≠ 2 else if w = 0 then qw P (qd P) = 2 else qw P (qd P) ≠ 0) := by
        have := hm; unfold pmis at this; rw [if_neg (by omega)] at this; exact this
      by_cases w0 : w = 0
      · -- {
        rw [if_neg (by omega), if_neg (by omega), if_pos w0] at hmm
        rw [show pput P w x = pwo (pw P w x) from if_pos w0]
        have fo : ∀ i, i ≤ qd P → va_up (qo P) (qd P + 1) (qn P + 1 - 1) i = qo P i := fun i l => va_up_ne _ _ (by omega)
        have fw : ∀ i, i ≤ qd P → va_up (qw P) (qd P + 1) 0 i = qw P i := fun i l => va_up_ne _ _ (by omega)
        have ft : ∀ j, j < qn P → va_up (qc P) (qn P) w j = qc P j ∧ va_up (qt P) (qn P) (qn P + 1) j = qt P j ∧ va_up (qe P) (qn P) (qn P + 1) j = qe P j := fun j l => ⟨up_fr j l, up_fr j l, up_fr j l⟩
        have hwd : qw P (qd P) ≤ 1 := by
          rcases a6.2.2 with ⟨z, _⟩ | ⟨z, _⟩ | ⟨z, _⟩ <;> omega
        refine Or.inr ⟨?_, ?_, ?_, fun i j l1 l2 l3 => ?_, fun i l1 l2 => ?_, ?_, ?_, ?_⟩
        · show 1 ≤ qd P + 1; omega
        · exact (fo 1 a1).trans a2
        · exact (ft 0 (by have := a6.1; omega)).2.1.trans a3
        · show va_up (qo P) (qd P + 1) (qn P + 1 - 1) i ≤ va_up (qo P) (qd P + 1) (qn P + 1 - 1) j
          have l3' : j ≤ qd P + 1 := l3
          by_cases z : j = qd P + 1
          · rw [z, va_up_self]
            by_cases z2 : i = qd P + 1
            · rw [z2, va_up_self]; exact Nat.le_refl _
            · rw [fo i (by omega)]; have := hop i l1 (by omega); omega
          · rw [fo i (by omega), fo j (by omega)]; exact a4 i j l1 l2 (by omega)
        · have l2' : i < qd P + 1 := l2
          show Fr (va_up (qc P) (qn P) w) (va_up (qt P) (qn P) (qn P + 1)) (va_up (qe P) (qn P) (qn P + 1)) (va_up (qw P) (qd P + 1) 0) (va_up (qo P) (qd P + 1) (qn P + 1 - 1)) (qf P) (qs P) i (va_up (qo P) (qd P + 1) (qn P + 1 - 1) (i + 1)) ∧ va_up (qw P) (qd P + 1) 0 i ≤ 1
          by_cases z : i = qd P
          · subst z
            rw [va_up_self, show qn P + 1 - 1 = qn P by omega, fw _ (Nat.le_refl _)]
            exact ⟨a6.frame (fun j l => ft j l) (fw _ (Nat.le_refl _)) (fo _ (Nat.le_refl _)) rfl rfl, hwd⟩
          · rw [fo (i + 1) (by omega), fw i (by omega)]
            have := hop (i + 1) (by omega) (by omega)
            exact ⟨(a5 i l1 (by omega)).1.frame (fun j l => ft j (by omega)) (fw i (by omega)) (fo i (by omega)) rfl rfl, (a5 i l1 (by omega)).2⟩
        · show va_up (qo P) (qd P + 1) (qn P + 1 - 1) (qd P + 1) < qn P + 1
          rw [va_up_self]; omega
        · show va_up (qc P) (qn P) w (va_up (qo P) (qd P + 1) (qn P + 1 - 1) (qd P + 1)) = 0
          rw [va_up_self, show qn P + 1 - 1 = qn P by omega, va_up_self]; exact w0
        · refine Or.inl ⟨?_, ?_⟩
          · show va_up (qw P) (qd P + 1) 0 (qd P + 1) = 0
            exact va_up_self _ _ _
          · show SG _ _ _ (va_up (qo P) (qd P + 1) (qn P + 1 - 1) (qd P + 1) + 1) (qn P + 1)
            rw [va_up_self, show qn P + 1 - 1 + 1 = qn P + 1 by omega]
            exact SG.nil _ _ _ _
      · by_cases w1 : w = 1
        · -- }
          rw [if_neg (by omega), if_neg (by omega), if_neg w0] at hmm
          have hw0 : qw P (qd P) = 0 := by omega
          have hSG : SG (qc P) (qt P) (qe P) (qo P (qd P) + 1) (qn P) := by
            rcases a6.2.2 with ⟨_, z⟩ | ⟨z, _⟩ | ⟨z, _⟩
            · exact z
            · omega
            · omega
          rw [show pput P w x = pwc (pw P w x) from (if_neg w0).trans (if_pos w1)]
          have ft : ∀ j, j < qn P → va_up (qc P) (qn P) w j = qc P j ∧ va_up (qt P) (qn P) (qn P + 1) j = qt P j ∧ va_up (qe P) (qn P) (qn P + 1) j = qe P j := fun j l => ⟨up_fr j l, up_fr j l, up_fr j l⟩
          have hSG' := hSG.frame (fun j _ l => ft j l)
          by_cases d1 : qd P = 1
          · refine Or.inl ⟨?_, Or.inr ⟨?_, ?_, ?_, ?_, ?_, ?_⟩⟩
            · show qd P - 1 = 0; omega
            · show 2 ≤ qn P + 1; have := a6.1; omega
            · show va_up (qc P) (qn P) w 0 = 0
              have z := a6.2.1; rw [d1, a2] at z; exact (ft 0 (by have := a6.1; omega)).1.trans z
            · exact (ft 0 (by have := a6.1; omega)).2.1.trans a3
            · show SG (va_up (qc P) (qn P) w) (va_up (qt P) (qn P) (qn P + 1)) (va_up (qe P) (qn P) (qn P + 1)) 1 (qn P + 1 - 1)
              rw [d1, a2] at hSG'
              rw [show qn P + 1 - 1 = qn P by omega]; exact hSG'
            · show va_up (qc P) (qn P) w (qn P + 1 - 1) = 1
              rw [show qn P + 1 - 1 = qn P by omega, va_up_self]; exact w1
            · show va_up (qt P) (qn P) (qn P + 1) (qn P + 1 - 1) = qn P + 1
              rw [show qn P + 1 - 1 = qn P by omega, va_up_self]
          · obtain ⟨b1, b2⟩ := a5 (qd P - 1) (by omega) (by omega)
            rw [show qd P - 1 + 1 = qd P by omega] at b1
            have hBK : BK (va_up (qc P) (qn P) w) (va_up (qt P) (qn P) (qn P + 1)) (va_up (qe P) (qn P) (qn P + 1)) (qo P (qd P)) (qn P + 1) := by
              refine ⟨by have := a6.1; omega, (ft _ a6.1).1.trans a6.2.1, ?_, ?_⟩
              · rw [show qn P + 1 - 1 = qn P by omega]; exact hSG'
              · rw [show qn P + 1 - 1 = qn P by omega, va_up_self]; exact w1
            have hof : ∀ j, j < qo P (qd P) → va_up (qc P) (qn P) w j = qc P j ∧ va_up (qt P) (qn P) (qn P + 1) j = qt P j ∧ va_up (qe P) (qn P) (qn P + 1) j = qe P j := fun j l => ft j (by have := a6.1; omega)
            refine Or.inr ⟨?_, a2, ?_, fun i j l1 l2 l3 => ?_, fun i l1 l2 => ?_, ?_, ?_, ?_⟩
            · show 1 ≤ qd P - 1; omega
            · exact (ft 0 (by have := a6.1; omega)).2.1.trans a3
            · have l3' : j ≤ qd P - 1 := l3
              exact a4 i j l1 l2 (by omega)
            · have l2' : i < qd P - 1 := l2
              show Fr (va_up (qc P) (qn P) w) (va_up (qt P) (qn P) (qn P + 1)) (va_up (qe P) (qn P) (qn P + 1)) (va_up (qw P) (qd P - 1) (qw P (qd P - 1) + 1)) (qo P) (if qw P (qd P - 1) = 0 then va_up (qf P) (qd P - 1) (qo P (qd P)) else qf P) (if qw P (qd P - 1) = 0 then qs P else va_up (qs P) (qd P - 1) (qo P (qd P))) i (qo P (i + 1)) ∧ va_up (qw P) (qd P - 1) (qw P (qd P - 1) + 1) i ≤ 1
              rw [va_up_ne _ _ (by omega)]
              refine ⟨(a5 i l1 (by omega)).1.frame (fun j l => ft j (by have := hop (i + 1) (by omega) (by omega); omega)) (va_up_ne _ _ (by omega)) rfl ?_ ?_, (a5 i l1 (by omega)).2⟩
              · by_cases z : qw P (qd P - 1) = 0
                · rw [if_pos z, va_up_ne _ _ (by omega)]
                · rw [if_neg z]
              · by_cases z : qw P (qd P - 1) = 0
                · rw [if_pos z]
                · rw [if_neg z, va_up_ne _ _ (by omega)]
            · show qo P (qd P - 1) < qn P + 1
              have := hop (qd P - 1) (by omega) (by omega); omega
            · exact (ft _ (hop (qd P - 1) (by omega) (by omega))).1.trans b1.2.1
            · show (va_up (qw P) (qd P - 1) (qw P (qd P - 1) + 1) (qd P - 1) = 0 ∧ _) ∨ (va_up (qw P) (qd P - 1) (qw P (qd P - 1) + 1) (qd P - 1) = 1 ∧ SG _ _ _ _ ((if qw P (qd P - 1) = 0 then va_up (qf P) (qd P - 1) (qo P (qd P)) else qf P) (qd P - 1)) ∧ BK _ _ _ ((if qw P (qd P - 1) = 0 then va_up (qf P) (qd P - 1) (qo P (qd P)) else qf P) (qd P - 1)) (qn P + 1)) ∨ (va_up (qw P) (qd P - 1) (qw P (qd P - 1) + 1) (qd P - 1) = 2 ∧ SG _ _ _ _ ((if qw P (qd P - 1) = 0 then va_up (qf P) (qd P - 1) (qo P (qd P)) else qf P) (qd P - 1)) ∧ BK _ _ _ ((if qw P (qd P - 1) = 0 then va_up (qf P) (qd P - 1) (qo P (qd P)) else qf P) (qd P - 1)) ((if qw P (qd P - 1) = 0 then qs P else va_up (qs P) (qd P - 1) (qo P (qd P))) (qd P - 1)) ∧ BK _ _ _ ((if qw P (qd P - 1) = 0 then qs P else va_up (qs P) (qd P - 1) (qo P (qd P))) (qd P - 1)) (qn P + 1))
              rw [va_up_self]
              rcases b1.2.2 with ⟨c1, c2⟩ | ⟨c1, c2, c3⟩ | ⟨c1, _⟩
              · refine Or.inr (Or.inl ⟨by omega, ?_, ?_⟩)
                · rw [if_pos c1, va_up_self]; exact c2.frame (fun j _ l => hof j l)
                · rw [if_pos c1, va_up_self]; exact hBK
              · refine Or.inr (Or.inr ⟨by omega, ?_, ?_, ?_⟩)
                · rw [if_neg (by omega)]; exact c2.frame (fun j _ l => hof j (by have := c3.1; omega))
                · rw [if_neg (by omega), if_neg (by omega), va_up_self]; exact c3.frame (fun j _ l => hof j l)
                · rw [if_neg (by omega), va_up_self]; exact hBK
              · omega
        · by_cases w37 : 37 ≤ w
          · -- if, ifelse
            rw [show pput P w x = pwj (pw P w x) from (if_neg w0).trans ((if_neg w1).trans (if_pos w37))]
            -- the new tables
            have hfd : qo P (qd P) < qf P (qd P) ∧ (qw P (qd P) = 1 ∨ qw P (qd P) = 2) ∧ qf P (qd P) + 2 ≤ qn P ∧ (qw P (qd P) = 2 → qf P (qd P) + 2 ≤ qs P (qd P) ∧ qs P (qd P) + 2 ≤ qn P) := by
              rcases a6.2.2 with ⟨z, _⟩ | ⟨z, c1, c2⟩ | ⟨z, c1, c2, c3⟩
              · by_cases u : w = 37
                · rw [if_pos u] at hmm; omega
                · rw [if_neg u, if_pos (by omega)] at hmm; omega
              · have := c1.le; have := c2.1; exact ⟨by omega, Or.inl z, by omega, by omega⟩
              · have := c1.le; have := c2.1; have := c3.1; exact ⟨by omega, Or.inr z, by omega, by omega⟩
            obtain ⟨k1, k2, k3, k4⟩ := hfd
            have eT : qt (pwj (pw P w x)) = (if qw P (qd P) = 2 then va_up (va_up (va_up (va_up (va_up (qt P) (qn P) (qn P + 1)) (qf P (qd P)) (qn P + 1 - 1)) (qn P + 1 - 1) (qf P (qd P) + 1)) (qn P + 1 - 2) (qn P + 1)) (qs P (qd P) - 1) (qn P + 1) else va_up (va_up (va_up (va_up (qt P) (qn P) (qn P + 1)) (qf P (qd P)) (qn P + 1 - 1)) (qn P + 1 - 1) (qf P (qd P) + 1)) (qn P + 1 - 2) (qn P + 1)) := rfl
            have eE : qe (pwj (pw P w x)) = (if qw P (qd P) = 2 then va_up (va_up (qe P) (qn P) (qn P + 1)) (qn P + 1 - 1) (qs P (qd P) + 1) else va_up (qe P) (qn P) (qn P + 1)) := rfl
            have eC : qc (pwj (pw P w x)) = va_up (qc P) (qn P) w := rfl
            have fT : ∀ j, j < qn P → j ≠ qf P (qd P) → j ≠ qn P - 1 → (qw P (qd P) = 2 → j ≠ qs P (qd P) - 1) → qt (pwj (pw P w x)) j = qt P j := by
              intro j l1 l2 l3 l4
              rw [eT]
              split
              · rw [va_up_ne _ _ (l4 (by assumption)), va_up_ne _ _ (by omega), va_up_ne _ _ (by omega), va_up_ne _ _ l2, va_up_ne _ _ (by omega)]
              · rw [va_up_ne _ _ (by omega), va_up_ne _ _ (by omega), va_up_ne _ _ l2, va_up_ne _ _ (by omega)]
            have fE : ∀ j, j < qn P → qe (pwj (pw P w x)) j = qe P j := by
              intro j l1
              rw [eE]
              split
              · rw [va_up_ne _ _ (by omega), va_up_ne _ _ (by omega)]
              · rw [va_up_ne _ _ (by omega)]
            have fC : ∀ j, j < qn P → qc (pwj (pw P w x)) j = qc P j := fun j l => up_fr j l
            have tF : qt (pwj (pw P w x)) (qf P (qd P)) = qn P := by
              rw [eT]
              split
              · rw [va_up_ne _ _ (by have := k4 (by assumption); omega), va_up_ne _ _ (by omega), va_up_ne _ _ (by omega), va_up_self]; omega
              · rw [va_up_ne _ _ (by omega), va_up_ne _ _ (by omega), va_up_self]; omega
            have tA : qt (pwj (pw P w x)) (qn P) = qf P (qd P) + 1 := by
              rw [eT]
              split
              · rw [va_up_ne _ _ (by have := k4 (by assumption); omega), va_up_ne _ _ (by omega), show qn P + 1 - 1 = qn P by omega, va_up_self]
              · rw [va_up_ne _ _ (by omega), show qn P + 1 - 1 = qn P by omega, va_up_self]
            have tB : qt (pwj (pw P w x)) (qn P - 1) = qn P + 1 := by
              rw [eT]
              split
              · rw [va_up_ne _ _ (by have := k4 (by assumption); omega), show qn P + 1 - 2 = qn P - 1 by omega, va_up_self]
              · rw [show qn P + 1 - 2 = qn P - 1 by omega, va_up_self]
            have hlow : ∀ j, j < qf P (qd P) → qc (pwj (pw P w x)) j = qc P j ∧ qt (pwj (pw P w x)) j = qt P j ∧ qe (pwj (pw P w x)) j = qe P j := fun j l => ⟨fC j (by omega), fT j (by omega) (by omega) (by omega) (fun z => by have := k4 z; omega), fE j (by omega)⟩
            have hnew : SG (qc (pwj (pw P w x))) (qt (pwj (pw P w x))) (qe (pwj (pw P w x))) (qo P (qd P) + 1) (qn P + 1) := by
              rcases a6.2.2 with ⟨z, _⟩ | ⟨z, c1, c2⟩ | ⟨z, c1, c2, c3⟩
              · omega
              · obtain ⟨u1, u2, u3, u4⟩ := c2
                have w' : w = 37 := by
                  by_cases u : w = 37
                  · exact u
                  · rw [if_neg u, if_pos (by omega)] at hmm; omega
                refine (c1.frame (fun j _ l => hlow j l)).app ?_
                have := SG.ifs (cs := qc (pwj (pw P w x))) (on := qt (pwj (pw P w x))) (ow := qe (pwj (pw P w x))) (a := qf P (qd P)) (e := qn P - 1) ((fC _ (by omega)).trans u2)
                  (u3.frame (fun j l1 l2 => ⟨fC j (by omega), fT j (by omega) (by omega) (by omega) (fun z => by omega), fE j (by omega)⟩)) ((fC _ (by omega)).trans u4)
                  (by rw [show qn P - 1 + 1 = qn P by omega, eC, va_up_self]; exact w') (by rw [tF]; omega) (by rw [show qn P - 1 + 1 = qn P by omega, tA]) (by rw [show qn P - 1 + 1 = qn P by omega, eE, if_neg (by omega), va_up_self]; omega) (by rw [tB]; omega)
                rw [show qn P - 1 + 2 = qn P + 1 by omega] at this
                exact this
              · obtain ⟨u1, u2, u3, u4⟩ := c2
                obtain ⟨y1, y2, y3, y4⟩ := c3
                have w' : w = 38 := by
                  by_cases u : w = 37
                  · rw [if_pos u] at hmm; omega
                  · omega
                refine (c1.frame (fun j _ l => hlow j l)).app ?_
                have := SG.elses (cs := qc (pwj (pw P w x))) (on := qt (pwj (pw P w x))) (ow := qe (pwj (pw P w x))) (a := qf P (qd P)) (e := qs P (qd P) - 1) (g := qn P - 1) ((fC _ (by omega)).trans u2)
                  (u3.frame (fun j l1 l2 => ⟨fC j (by omega), fT j (by omega) (by omega) (by omega) (fun z => by omega), fE j (by omega)⟩)) ((fC _ (by omega)).trans u4)
                  (by rw [show qs P (qd P) - 1 + 1 = qs P (qd P) by omega]; exact (fC _ (by omega)).trans y2)
                  (by rw [show qs P (qd P) - 1 + 2 = qs P (qd P) + 1 by omega]; exact y3.frame (fun j l1 l2 => ⟨fC j (by omega), fT j (by omega) (by omega) (by omega) (fun z => by omega), fE j (by omega)⟩))
                  ((fC _ (by omega)).trans y4)
                  (by rw [show qn P - 1 + 1 = qn P by omega, eC, va_up_self]; exact w') (by rw [tF]; omega) (by rw [show qn P - 1 + 1 = qn P by omega, tA])
                  (by rw [show qn P - 1 + 1 = qn P by omega, eE, if_pos z, show qn P + 1 - 1 = qn P by omega, va_up_self]; omega)
                  (by rw [eT, if_pos z, va_up_self]; omega) (by rw [tB]; omega)
                rw [show qn P - 1 + 2 = qn P + 1 by omega] at this
                exact this
            refine Or.inr ⟨a1, a2, ?_, a4, fun i l1 l2 => ?_, ?_, ?_, ?_⟩
            · exact (hlow 0 (by omega)).2.1.trans a3
            · have l2' : i < qd P := l2
              have w' : qw (pwj (pw P w x)) i = qw P i := va_up_ne (qw P) 0 (k := qd P) (show i ≠ qd P by omega)
              rw [w']
              have o1 := a4 (i + 1) (qd P) (by omega) (by omega) (Nat.le_refl _)
              exact ⟨(a5 i l1 l2').1.frame (fun j l => hlow j (by omega)) w' rfl rfl rfl, (a5 i l1 l2').2⟩
            · show qo P (qd P) < qn P + 1; omega
            · exact (fC (qo P (qd P)) (by omega)).trans a6.2.1
            · exact Or.inl ⟨va_up_self _ _ _, hnew⟩
          · -- other words
            rw [show pput P w x = pw P w x from (if_neg w0).trans ((if_neg w1).trans (if_neg w37))]
            rw [if_neg (by omega), if_neg (by omega), if_neg w0] at hmm
            have hw0 : qw P (qd P) = 0 := by omega
            have ft : ∀ j, j < qn P → va_up (qc P) (qn P) w j = qc P j ∧ va_up (qt P) (qn P) (qn P + 1) j = qt P j ∧ va_up (qe P) (qn P) (qn P + 1) j = qe P j := fun j l => ⟨up_fr j l, up_fr j l, up_fr j l⟩
            have hSG : SG (qc P) (qt P) (qe P) (qo P (qd P) + 1) (qn P) := by
              rcases a6.2.2 with ⟨_, z⟩ | ⟨z, _⟩ | ⟨z, _⟩
              · exact z
              · omega
              · omega
            refine Or.inr ⟨a1, a2, ?_, a4, fun i l1 l2 => ?_, ?_, ?_, ?_⟩
            · exact (ft 0 (by have := a6.1; omega)).2.1.trans a3
            · have l2' : i < qd P := l2
              have o1 := hop (i + 1) (by omega) (by omega)
              exact ⟨(a5 i l1 l2').1.frame (fun j l => ft j (by omega)) rfl rfl rfl rfl, (a5 i l1 l2').2⟩
            · show qo P (qd P) < qn P + 1; have := a6.1; omega
            · exact (ft _ a6.1).1.trans a6.2.1
            · refine Or.inl ⟨hw0, (hSG.frame (fun j _ l => ft j l)).app (SG.word ?_ ?_ ?_)⟩
              · show 2 ≤ va_up (qc P) (qn P) w (qn P); rw [va_up_self]; omega
              · show va_up (qc P) (qn P) w (qn P) < 37; rw [va_up_self]; omega
              · exact va_up_self _ _ _
