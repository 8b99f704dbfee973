/-! what a word leaves is as it may be -/
theorem WS_give {n k : Nat} {v : Nat → Int} {t : Nat → Bool} {x : Int} {b : Bool} (h : WS n v t) (hb : b = true → zk x = 0 ∨ zk x = 1) (e : (pgive n v t k x b).1 = -1) : WS (pgive n v t k x b).2.1 (pgive n v t k x b).2.2.1 (pgive n v t k x b).2.2.2 := by
  unfold pgive at e ⊢
  by_cases z : 60 ≤ n - k
  · rw [if_pos z] at e; exact absurd (show (8 : Int) = -1 from e) (by decide)
  · rw [if_neg z]
    refine ⟨by show n - k + 1 ≤ 60; omega, fun j hj => ?_⟩
    have hj' : j < n - k + 1 := hj
    show zN (va_up v (n - k) (zk x) j) ∧ (va_up t (n - k) b j = true → va_up v (n - k) (zk x) j = 0 ∨ va_up v (n - k) (zk x) j = 1)
    by_cases y : j = n - k
    · subst y; rw [va_up_self, va_up_self]; exact ⟨zk_N _, hb⟩
    · rw [va_up_ne _ _ y, va_up_ne _ _ y]; exact h.2 j (by omega)
theorem WS_gT {n k : Nat} {v : Nat → Int} {t : Nat → Bool} {b : Bool} (h : WS n v t) (e : (pgT n v t k b).1 = -1) : WS (pgT n v t k b).2.1 (pgT n v t k b).2.2.1 (pgT n v t k b).2.2.2 := WS_give h (fun _ => by cases b <;> decide) e
theorem WS_e {n : Nat} {v : Nat → Int} {t : Nat → Bool} {c : Int} {X : Prop} (hc : c ≠ -1) (e : (pe n v t c).1 = -1) : X := absurd e hc
theorem WS_1 {n : Nat} {v : Nat → Int} {t : Nat → Bool} {bad : Int → Bool} {f : Int → Int} (h : WS n v t) (e : (p1 n v t bad f).1 = -1) : WS (p1 n v t bad f).2.1 (p1 n v t bad f).2.2.1 (p1 n v t bad f).2.2.2 := by
  unfold p1 at e ⊢
  split
  · rename_i z; rw [if_pos z] at e; exact WS_e (by decide) e
  · rename_i z; rw [if_neg z] at e
    split
    · rename_i y; rw [if_pos y] at e; exact WS_e (by decide) e
    · rename_i y; rw [if_neg y] at e
      split
      · rename_i u; rw [if_pos u] at e; exact WS_e (by decide) e
      · rename_i u; rw [if_neg u] at e; exact WS_give h (fun a => by cases a) e
theorem WS_2 {n : Nat} {v : Nat → Int} {t : Nat → Bool} {bad : Int → Bool} {f : Int → Int → Int} (h : WS n v t) (e : (p2 n v t bad f).1 = -1) : WS (p2 n v t bad f).2.1 (p2 n v t bad f).2.2.1 (p2 n v t bad f).2.2.2 := by
  unfold p2 at e ⊢
  split
  · rename_i z; rw [if_pos z] at e; exact WS_e (by decide) e
  · rename_i z; rw [if_neg z] at e
    split
    · rename_i y; rw [if_pos y] at e; exact WS_e (by decide) e
    · rename_i y; rw [if_neg y] at e
      split
      · rename_i u; rw [if_pos u] at e; exact WS_e (by decide) e
      · rename_i u; rw [if_neg u] at e; exact WS_give h (fun a => by cases a) e
theorem WS_idm {n : Nat} {v : Nat → Int} {t : Nat → Bool} {f : Int → Int → Int} (h : WS n v t) (e : (pidm n v t f).1 = -1) : WS (pidm n v t f).2.1 (pidm n v t f).2.2.1 (pidm n v t f).2.2.2 := by
  unfold pidm at e ⊢
  split
  · rename_i z; rw [if_pos z] at e; exact WS_e (by decide) e
  · rename_i z; rw [if_neg z] at e
    split
    · rename_i y; rw [if_pos y] at e; exact WS_e y e
    · rename_i y; rw [if_neg y] at e
      split
      · rename_i u; rw [if_pos u] at e; exact WS_e (by decide) e
      · rename_i u; rw [if_neg u] at e; exact WS_give h (fun a => by cases a) e
theorem WS_sh {n : Nat} {v : Nat → Int} {t : Nat → Bool} (h : WS n v t) (e : (pshift n v t).1 = -1) : WS (pshift n v t).2.1 (pshift n v t).2.2.1 (pshift n v t).2.2.2 := by
  unfold pshift at e ⊢
  split
  · rename_i z; rw [if_pos z] at e; exact WS_e (by decide) e
  · rename_i z; rw [if_neg z] at e
    split
    · rename_i y; rw [if_pos y] at e; exact WS_e y e
    · rename_i y; rw [if_neg y] at e
      split
      · rename_i u; rw [if_pos u] at e; exact WS_e (by decide) e
      · rename_i u; rw [if_neg u] at e; exact WS_give h (fun a => by cases a) e
theorem WS_cmp {n : Nat} {v : Nat → Int} {t : Nat → Bool} {o : Bool} {f : Int → Int → Bool} (h : WS n v t) (e : (pcmp n v t o f).1 = -1) : WS (pcmp n v t o f).2.1 (pcmp n v t o f).2.2.1 (pcmp n v t o f).2.2.2 := by
  unfold pcmp at e ⊢
  split
  · rename_i z; rw [if_pos z] at e; exact WS_e (by decide) e
  · rename_i z; rw [if_neg z] at e
    split
    · rename_i y; rw [if_pos y] at e; exact WS_e (by decide) e
    · rename_i y; rw [if_neg y] at e; exact WS_gT h e
theorem WS_log {n : Nat} {v : Nat → Int} {t : Nat → Bool} {f : Int32 → Int32 → Int32} (h : WS n v t) (e : (plog n v t f).1 = -1) : WS (plog n v t f).2.1 (plog n v t f).2.2.1 (plog n v t f).2.2.2 := by
  unfold plog at e ⊢
  split
  · rename_i z; rw [if_pos z] at e; exact WS_e (by decide) e
  · rename_i z; rw [if_neg z] at e
    split
    · rename_i y; rw [if_pos y] at e; exact WS_gT h e
    · rename_i y; rw [if_neg y] at e
      split
      · rename_i u; rw [if_pos u] at e; exact WS_e u e
      · rename_i u; rw [if_neg u] at e; exact WS_give h (fun a => by cases a) e
theorem WS_not {n : Nat} {v : Nat → Int} {t : Nat → Bool} (h : WS n v t) (e : (pnot n v t).1 = -1) : WS (pnot n v t).2.1 (pnot n v t).2.2.1 (pnot n v t).2.2.2 := by
  unfold pnot at e ⊢
  split
  · rename_i z; rw [if_pos z] at e; exact WS_e (by decide) e
  · rename_i z; rw [if_neg z] at e
    split
    · rename_i y; rw [if_pos y] at e; exact WS_gT h e
    · rename_i y; rw [if_neg y] at e
      split
      · rename_i u; rw [if_pos u] at e; exact WS_e u e
      · rename_i u; rw [if_neg u] at e; exact WS_give h (fun a => by cases a) e
theorem WS_dn {n k : Nat} {v : Nat → Int} {t : Nat → Bool} (h : WS n v t) (hk : k ≤ n) : WS k v t := ⟨Nat.le_trans hk h.1, fun j hj => h.2 j (by omega)⟩
theorem WS_pop {n : Nat} {v : Nat → Int} {t : Nat → Bool} (h : WS n v t) (e : (ppop n v t).1 = -1) : WS (ppop n v t).2.1 (ppop n v t).2.2.1 (ppop n v t).2.2.2 := by
  unfold ppop at e ⊢
  split
  · rename_i z; rw [if_pos z] at e; exact WS_e (by decide) e
  · exact WS_dn h (Nat.sub_le _ _)
theorem WS_cho {n : Nat} {v : Nat → Int} {t : Nat → Bool} (h : WS n v t) (e : (pchoice n v t).1 = -1) : WS (pchoice n v t).2.1 (pchoice n v t).2.2.1 (pchoice n v t).2.2.2 := by
  unfold pchoice at e ⊢
  split
  · rename_i z; rw [if_pos z] at e; exact WS_e (by decide) e
  · rename_i z; rw [if_neg z] at e
    split
    · rename_i y; rw [if_pos y] at e; exact WS_e (by decide) e
    · exact WS_dn h (Nat.sub_le _ _)
theorem WS_exch {n : Nat} {v : Nat → Int} {t : Nat → Bool} (h : WS n v t) (e : (pexch n v t).1 = -1) : WS (pexch n v t).2.1 (pexch n v t).2.2.1 (pexch n v t).2.2.2 := by
  unfold pexch at e ⊢
  split
  · rename_i z; rw [if_pos z] at e; exact WS_e (by decide) e
  · refine ⟨h.1, fun j hj => ?_⟩
    have hj' : j < n := hj
    show zN (if j = n - 2 then v (n - 1) else if j = n - 1 then v (n - 2) else v j) ∧ ((if j = n - 2 then t (n - 1) else if j = n - 1 then t (n - 2) else t j) = true → _)
    show _ ∧ (_ → (if j = n - 2 then v (n - 1) else if j = n - 1 then v (n - 2) else v j) = 0 ∨ (if j = n - 2 then v (n - 1) else if j = n - 1 then v (n - 2) else v j) = 1)
    split
    · exact h.2 _ (by omega)
    · split
      · exact h.2 _ (by omega)
      · exact h.2 _ (by omega)
theorem WS_dup {n : Nat} {v : Nat → Int} {t : Nat → Bool} (h : WS n v t) (e : (pdup n v t).1 = -1) : WS (pdup n v t).2.1 (pdup n v t).2.2.1 (pdup n v t).2.2.2 := by
  unfold pdup at e ⊢
  split
  · rename_i z; rw [if_pos z] at e; exact WS_e (by decide) e
  · rename_i z; rw [if_neg z] at e
    have := h.2 (n - 1) (by omega)
    exact WS_give h (fun a => by rw [zk_id this.1]; exact this.2 a) e
theorem WS_copy {n : Nat} {v : Nat → Int} {t : Nat → Bool} (h : WS n v t) (e : (pcopy n v t).1 = -1) : WS (pcopy n v t).2.1 (pcopy n v t).2.2.1 (pcopy n v t).2.2.2 := by
  unfold pcopy at e ⊢
  by_cases z : n < 1
  · rw [if_pos z] at e; exact WS_e (by decide) e
  · rw [if_neg z] at e ⊢
    by_cases y : pwh1 n v t ≠ -1
    · rw [if_pos y] at e; exact WS_e y e
    · rw [if_neg y] at e ⊢
      by_cases u : v (n - 1) / 65536 < 0
      · rw [if_pos u] at e; exact WS_e (by decide) e
      · rw [if_neg u] at e ⊢
        by_cases w : (n : Int) - 1 < v (n - 1) / 65536
        · rw [if_pos w] at e; exact WS_e (by decide) e
        · rw [if_neg w] at e ⊢
          by_cases x : 60 < (n : Int) - 1 + v (n - 1) / 65536
          · rw [if_pos x] at e; exact WS_e (by decide) e
          · rw [if_neg x]
            generalize hm : v (n - 1) / 65536 = m at *
            refine ⟨by show n - 1 + m.toNat ≤ 60; omega, fun j hj => ?_⟩
            have hj' : j < n - 1 + m.toNat := hj
            show zN (if n - 1 ≤ j ∧ j < n - 1 + m.toNat then v (j - m.toNat) else v j) ∧ ((if n - 1 ≤ j ∧ j < n - 1 + m.toNat then t (j - m.toNat) else t j) = true → (if n - 1 ≤ j ∧ j < n - 1 + m.toNat then v (j - m.toNat) else v j) = 0 ∨ (if n - 1 ≤ j ∧ j < n - 1 + m.toNat then v (j - m.toNat) else v j) = 1)
            split
            · exact h.2 _ (by omega)
            · exact h.2 _ (by omega)
theorem WS_index {n : Nat} {v : Nat → Int} {t : Nat → Bool} (h : WS n v t) (e : (pindex n v t).1 = -1) : WS (pindex n v t).2.1 (pindex n v t).2.2.1 (pindex n v t).2.2.2 := by
  unfold pindex at e ⊢
  by_cases z : n < 1
  · rw [if_pos z] at e; exact WS_e (by decide) e
  · rw [if_neg z] at e ⊢
    by_cases y : pwh1 n v t ≠ -1
    · rw [if_pos y] at e; exact WS_e y e
    · rw [if_neg y] at e ⊢
      by_cases u : v (n - 1) / 65536 < 0
      · rw [if_pos u] at e; exact WS_e (by decide) e
      · rw [if_neg u] at e ⊢
        by_cases w : (n : Int) - 1 ≤ v (n - 1) / 65536
        · rw [if_pos w] at e; exact WS_e (by decide) e
        · rw [if_neg w] at e ⊢
          have := h.2 (n - 2 - (v (n - 1) / 65536).toNat) (by omega)
          exact WS_give h (fun a => by rw [zk_id this.1]; exact this.2 a) e
theorem WS_roll {n : Nat} {v : Nat → Int} {t : Nat → Bool} (h : WS n v t) (e : (proll n v t).1 = -1) : WS (proll n v t).2.1 (proll n v t).2.2.1 (proll n v t).2.2.2 := by
  unfold proll at e ⊢
  by_cases z : n < 2
  · rw [if_pos z] at e; exact WS_e (by decide) e
  · rw [if_neg z] at e ⊢
    by_cases y : pwh2 n v t ≠ -1
    · rw [if_pos y] at e; exact WS_e y e
    · rw [if_neg y] at e ⊢
      by_cases u : v (n - 2) / 65536 < 0
      · rw [if_pos u] at e; exact WS_e (by decide) e
      · rw [if_neg u] at e ⊢
        by_cases w : (n : Int) - 2 < v (n - 2) / 65536
        · rw [if_pos w] at e; exact WS_e (by decide) e
        · rw [if_neg w]
          generalize hm : v (n - 2) / 65536 = m at *
          generalize hk : v (n - 1) / 65536 % m = k at *
          have hk' : m = 0 ∨ (0 ≤ k ∧ k < m) := by
            by_cases x : m = 0
            · exact Or.inl x
            · rw [← hk]; exact Or.inr ⟨Int.emod_nonneg _ x, Int.emod_lt_of_pos _ (by omega)⟩
          refine ⟨by show n - 2 ≤ 60; have := h.1; omega, fun j hj => ?_⟩
          have hj' : j < n - 2 := hj
          show zN (if n - 2 - m.toNat ≤ j ∧ j < n - 2 then (if n - 2 - m.toNat + k.toNat ≤ j then v (j - k.toNat) else v (j + m.toNat - k.toNat)) else v j) ∧ ((if n - 2 - m.toNat ≤ j ∧ j < n - 2 then (if n - 2 - m.toNat + k.toNat ≤ j then t (j - k.toNat) else t (j + m.toNat - k.toNat)) else t j) = true → (if n - 2 - m.toNat ≤ j ∧ j < n - 2 then (if n - 2 - m.toNat + k.toNat ≤ j then v (j - k.toNat) else v (j + m.toNat - k.toNat)) else v j) = 0 ∨ (if n - 2 - m.toNat ≤ j ∧ j < n - 2 then (if n - 2 - m.toNat + k.toNat ≤ j then v (j - k.toNat) else v (j + m.toNat - k.toNat)) else v j) = 1)
          by_cases x : n - 2 - m.toNat ≤ j ∧ j < n - 2
          · rw [if_pos x, if_pos x]
            by_cases x2 : n - 2 - m.toNat + k.toNat ≤ j
            · rw [if_pos x2, if_pos x2]; exact h.2 _ (by omega)
            · rw [if_neg x2, if_neg x2]; exact h.2 _ (by omega)
          · rw [if_neg x, if_neg x]; exact h.2 _ (by omega)
theorem WS_S {x : Int} {n : Nat} {v : Nat → Int} {t : Nat → Bool} (h : WS n v t) : ∀ {w : Nat}, w ≤ 38 → (pS w x n v t).1 = -1 → WS (pS w x n v t).2.1 (pS w x n v t).2.2.1 (pS w x n v t).2.2.2
  | 0, _, e => by rw [pS_0] at e ⊢; exact h
  | 1, _, e => by rw [pS_1] at e ⊢; exact h
  | 2, _, e => by rw [pS_2] at e ⊢; exact WS_give h (fun a => by cases a) e
  | 3, _, e => by rw [pS_3] at e ⊢; exact WS_gT h e
  | 4, _, e => by rw [pS_4] at e ⊢; exact WS_gT h e
  | 5, _, e => by rw [pS_5] at e ⊢; exact WS_1 h e
  | 6, _, e => by rw [pS_6] at e ⊢; exact WS_1 h e
  | 7, _, e => by rw [pS_7] at e ⊢; exact WS_1 h e
  | 8, _, e => by rw [pS_8] at e ⊢; exact WS_1 h e
  | 9, _, e => by rw [pS_9] at e ⊢; exact WS_1 h e
  | 10, _, e => by rw [pS_10] at e ⊢; exact WS_1 h e
  | 11, _, e => by rw [pS_11] at e ⊢; exact WS_1 h e
  | 12, _, e => by rw [pS_12] at e ⊢; exact WS_1 h e
  | 13, _, e => by rw [pS_13] at e ⊢; exact WS_1 h e
  | 14, _, e => by rw [pS_14] at e ⊢; exact WS_2 h e
  | 15, _, e => by rw [pS_15] at e ⊢; exact WS_2 h e
  | 16, _, e => by rw [pS_16] at e ⊢; exact WS_2 h e
  | 17, _, e => by rw [pS_17] at e ⊢; exact WS_2 h e
  | 18, _, e => by rw [pS_18] at e ⊢; exact WS_idm h e
  | 19, _, e => by rw [pS_19] at e ⊢; exact WS_idm h e
  | 20, _, e => by rw [pS_20] at e ⊢; exact WS_sh h e
  | 21, _, e => by rw [pS_21] at e ⊢; exact WS_cmp h e
  | 22, _, e => by rw [pS_22] at e ⊢; exact WS_cmp h e
  | 23, _, e => by rw [pS_23] at e ⊢; exact WS_cmp h e
  | 24, _, e => by rw [pS_24] at e ⊢; exact WS_cmp h e
  | 25, _, e => by rw [pS_25] at e ⊢; exact WS_cmp h e
  | 26, _, e => by rw [pS_26] at e ⊢; exact WS_cmp h e
  | 27, _, e => by rw [pS_27] at e ⊢; exact WS_log h e
  | 28, _, e => by rw [pS_28] at e ⊢; exact WS_log h e
  | 29, _, e => by rw [pS_29] at e ⊢; exact WS_log h e
  | 30, _, e => by rw [pS_30] at e ⊢; exact WS_not h e
  | 31, _, e => by rw [pS_31] at e ⊢; exact WS_pop h e
  | 32, _, e => by rw [pS_32] at e ⊢; exact WS_exch h e
  | 33, _, e => by rw [pS_33] at e ⊢; exact WS_dup h e
  | 34, _, e => by rw [pS_34] at e ⊢; exact WS_copy h e
  | 35, _, e => by rw [pS_35] at e ⊢; exact WS_index h e
  | 36, _, e => by rw [pS_36] at e ⊢; exact WS_roll h e
  | 37, _, e => by rw [pS_37] at e ⊢; exact WS_cho h e
  | 38, _, e => by rw [pS_38] at e ⊢; exact WS_cho h e
  | w + 39, hw, _ => absurd hw (by omega)
