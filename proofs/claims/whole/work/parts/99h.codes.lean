/-! CODES of faults; samples look at their own bytes alone -/
def cdp (r : pR) : Prop := r.1 = -1 ∨ (8 ≤ r.1 ∧ r.1 ≤ 13)
theorem cdp_ite {P : Prop} [Decidable P] {a b : pR} (h : cdp a) (g : cdp b) : cdp (if P then a else b) := by
  split
  · exact h
  · exact g
theorem cdp_give {n : Nat} {v : Nat → Int} {t : Nat → Bool} {k : Nat} {x : Int} {b : Bool} : cdp (pgive n v t k x b) := by
  unfold pgive
  exact cdp_ite (Or.inr ⟨(by decide : (8 : Int) ≤ 8), (by decide : (8 : Int) ≤ 13)⟩) (Or.inl rfl)
theorem cdp_e {n : Nat} {v : Nat → Int} {t : Nat → Bool} (c : Int) (h : 8 ≤ c ∧ c ≤ 13 := by decide) : cdp (pe n v t c) := Or.inr h
theorem cdp_w1 {n : Nat} {v : Nat → Int} {t : Nat → Bool} {b : pR} (h : cdp b) : cdp (if pwh1 n v t ≠ -1 then pe n v t (pwh1 n v t) else b) := by
  refine cdp_ite ?_ h
  unfold pwh1
  split
  · exact cdp_e 10
  · split
    · exact cdp_e 11
    · exact Or.inl rfl
theorem cdp_w2 {n : Nat} {v : Nat → Int} {t : Nat → Bool} {b : pR} (h : cdp b) : cdp (if pwh2 n v t ≠ -1 then pe n v t (pwh2 n v t) else b) := by
  refine cdp_ite ?_ h
  unfold pwh2
  split
  · exact cdp_e 10
  · split
    · exact cdp_e 11
    · exact Or.inl rfl
theorem cdp_1 {n : Nat} {v : Nat → Int} {t : Nat → Bool} {bad : Int → Bool} {f : Int → Int} : cdp (p1 n v t bad f) := cdp_ite (cdp_e 9) (cdp_ite (cdp_e 10) (cdp_ite (cdp_e 12) cdp_give))
theorem cdp_2 {n : Nat} {v : Nat → Int} {t : Nat → Bool} {bad : Int → Bool} {f : Int → Int → Int} : cdp (p2 n v t bad f) := cdp_ite (cdp_e 9) (cdp_ite (cdp_e 10) (cdp_ite (cdp_e 13) cdp_give))
theorem cdp_idm {n : Nat} {v : Nat → Int} {t : Nat → Bool} {f : Int → Int → Int} : cdp (pidm n v t f) := cdp_ite (cdp_e 9) (cdp_w2 (cdp_ite (cdp_e 13) cdp_give))
theorem cdp_shift {n : Nat} {v : Nat → Int} {t : Nat → Bool} : cdp (pshift n v t) := cdp_ite (cdp_e 9) (cdp_w2 (cdp_ite (cdp_e 12) cdp_give))
theorem cdp_cmp {n : Nat} {v : Nat → Int} {t : Nat → Bool} {o : Bool} {f : Int → Int → Bool} : cdp (pcmp n v t o f) := cdp_ite (cdp_e 9) (cdp_ite (cdp_e 10) cdp_give)
theorem cdp_log {n : Nat} {v : Nat → Int} {t : Nat → Bool} {f : Int32 → Int32 → Int32} : cdp (plog n v t f) := cdp_ite (cdp_e 9) (cdp_ite cdp_give (cdp_w2 cdp_give))
theorem cdp_not {n : Nat} {v : Nat → Int} {t : Nat → Bool} : cdp (pnot n v t) := cdp_ite (cdp_e 9) (cdp_ite cdp_give (cdp_w1 cdp_give))
theorem cdp_pop {n : Nat} {v : Nat → Int} {t : Nat → Bool} : cdp (ppop n v t) := cdp_ite (cdp_e 9) (Or.inl rfl)
theorem cdp_exch {n : Nat} {v : Nat → Int} {t : Nat → Bool} : cdp (pexch n v t) := cdp_ite (cdp_e 9) (Or.inl rfl)
theorem cdp_dup {n : Nat} {v : Nat → Int} {t : Nat → Bool} : cdp (pdup n v t) := cdp_ite (cdp_e 9) cdp_give
theorem cdp_copy {n : Nat} {v : Nat → Int} {t : Nat → Bool} : cdp (pcopy n v t) := cdp_ite (cdp_e 9) (cdp_w1 (cdp_ite (cdp_e 12) (cdp_ite (cdp_e 9) (cdp_ite (cdp_e 8) (Or.inl rfl)))))
theorem cdp_index {n : Nat} {v : Nat → Int} {t : Nat → Bool} : cdp (pindex n v t) := cdp_ite (cdp_e 9) (cdp_w1 (cdp_ite (cdp_e 12) (cdp_ite (cdp_e 9) cdp_give)))
theorem cdp_roll {n : Nat} {v : Nat → Int} {t : Nat → Bool} : cdp (proll n v t) := cdp_ite (cdp_e 9) (cdp_w2 (cdp_ite (cdp_e 12) (cdp_ite (cdp_e 9) (Or.inl rfl))))
theorem cdp_choice {n : Nat} {v : Nat → Int} {t : Nat → Bool} : cdp (pchoice n v t) := cdp_ite (cdp_e 9) (cdp_ite (cdp_e 10) (Or.inl rfl))
theorem cdp_S (w : Nat) (x : Int) (n : Nat) (v : Nat → Int) (t : Nat → Bool) : cdp (pS w x n v t) := by
  unfold pS
  split <;> first | exact Or.inl rfl | exact cdp_give | exact cdp_1 | exact cdp_2 | exact cdp_idm | exact cdp_shift | exact cdp_cmp | exact cdp_log | exact cdp_not | exact cdp_pop | exact cdp_exch | exact cdp_dup | exact cdp_copy | exact cdp_index | exact cdp_roll | exact cdp_choice
theorem cdp_z {w : Nat} {x : Int} {M : pM} {c : Int} (h : (pfS w x M).1 = c) (hc : c ≠ -1) : iZ c ≠ -1 := by
  rcases cdp_S w x M.1 M.2.1 M.2.2 with z | z
  · exact absurd (h.symm.trans z) hc
  · have z2 : 8 ≤ c ∧ c ≤ 13 := by rw [← h]; exact z
    intro e
    have := (iZ_eq (a := c) (b := -1) ⟨by omega, by omega⟩ ⟨by decide, by decide⟩).mp (e.trans (show (-1 : Int32) = iZ (-1) from rfl))
    omega
theorem perr_cd (sg : Nat → Nat) (P : pP) (s e : Nat) : perr sg P s e = -1 ∨ (3 ≤ perr sg P s e ∧ perr sg P s e ≤ 7) := by
  unfold perr nr
  split
  · exact Or.inr (by decide)
  · split
    · exact Or.inr (by decide)
    · split
      · exact Or.inr (by decide)
      · split
        · split
          · exact Or.inr (by decide)
          · split
            · exact Or.inr (by decide)
            · exact Or.inl rfl
        · exact Or.inl rfl
theorem prs_cd {sg : Nat → Nat} {n : Nat} : ∀ (f s : Nat) (P : pP), (prs sg n f s P).1 = -1 ∨ (3 ≤ (prs sg n f s P).1 ∧ (prs sg n f s P).1 ≤ 7) := by
  have fin : ∀ P, (pfin n P).1 = -1 ∨ (3 ≤ (pfin n P).1 ∧ (pfin n P).1 ≤ 7) := by
    intro P
    unfold pfin
    split
    · exact Or.inr (by decide : (3 : Int) ≤ 7 ∧ (7 : Int) ≤ 7)
    · exact Or.inl rfl
  intro f
  induction f with
  | zero => intro s P; exact fin P
  | succ f ih =>
    intro s P
    by_cases z : s < n
    · by_cases g : perr sg P s (we sg n s) = -1
      · rw [prs_go z g]; exact ih _ _
      · rw [prs_err z g]; exact perr_cd _ _ _ _
    · rw [prs_end z]; exact fin P
theorem prs_num {sg : Nat → Nat} {n k : Nat} {P Q : pP} {s : Nat} (h : prs sg n 401 s P = (-1, k, Q)) (h0 : qn P = 0) (h1 : qd P = 0) : ∀ j, j < qn Q → qc Q j = 2 → zN (qm Q j) := by
  intro j hj h2
  obtain ⟨s, e, t⟩ := (prs_prg h h0 h1).2.2.2 j hj
  by_cases z : cw sg s e = 39
  · exact tok_nv t z
  · have e1 : qc Q j = wcd sg s e := t.2.2.2.1
    unfold wcd at e1
    rw [if_neg z, h2] at e1
    have l : cw sg s e < 39 := by omega
    have i := cw_is l
    have e2 : ∀ (k : Nat) (hk : k < TX.length), k = 2 → TX[k] = [] := by
      intro k hk e; subst e; rfl
    rw [e2 _ l e1.symm] at i
    unfold isT at i
    have := t.1
    rw [decide_eq_false (show ¬ ([] : List Nat).length = e - s by show ¬ 0 = e - s; omega)] at i
    exact absurd i Bool.false_ne_true
theorem zsm_c {a b : Nat → Int} {p : Nat} : ∀ k, (∀ j, j < k → a (p + j) = b (p + j)) → zsm a p k = zsm b p k := by
  intro k
  induction k with
  | zero => intro _; rfl
  | succ k ih =>
    intro h
    show zsm a p k * 2 + a (p + k) = zsm b p k * 2 + b (p + k)
    rw [ih (fun j hj => h j (by omega)), h k (by omega)]
theorem zSm_c {q inp : Nat → Int} {a b : Nat → Int32} {n m o wd N : Nat} (hw : q (5 * n) = wd) (hqs : ∀ i, i < n → 1 ≤ q (5 * i + 2) ∧ q (5 * i + 2) ≤ 64) (hNb : zsz q n * m * wd ≤ ((8 * N : Nat) : Int)) (ho : o < m) (E : ∀ j, j < N → a j = b j) : zSm q (zbt a) n m o inp = zSm q (zbt b) n m o inp := by
  rw [zSm_e hw, zSm_e hw]
  rw [show zL0 q (zwh q inp) (zbt a) n m wd o = zL0 q (zwh q inp) (zbt b) n m wd o from by
    funext c
    unfold zL0
    have hap := zTl_n (c := c) (o := o) hqs hNb (fun i l => (zwh_b (inp := inp) (hqs i l)).1) ho
    rw [zsm_c wd (fun j hj => ?_)]
    unfold zbt
    rw [E _ ?_]
    have h2 := hap.2
    rw [Nat.add_mul, Nat.one_mul] at h2
    omega]
