/-! THE READING looks at the row's own signs alone -/
section CGR
variable {A B : Nat → Nat} {n : Nat}
theorem wsk_c (E : ∀ j, j < n → A j = B j) : ∀ (f k : Nat), wsk A n f k = wsk B n f k := by
  intro f
  induction f with
  | zero => intro k; rfl
  | succ f ih =>
    intro k
    show (if k < n ∧ A k ≤ 32 then wsk A n f (k + 1) else k) = (if k < n ∧ B k ≤ 32 then wsk B n f (k + 1) else k)
    by_cases z : k < n
    · rw [E k z, ih]
    · rw [if_neg (fun h => z h.1), if_neg (fun h => z h.1)]
theorem wek_c (E : ∀ j, j < n → A j = B j) : ∀ (f k : Nat), wek A n f k = wek B n f k := by
  intro f
  induction f with
  | zero => intro k; rfl
  | succ f ih =>
    intro k
    show (if k < n ∧ 32 < A k ∧ ¬(A k = 123 ∨ A k = 125) then wek A n f (k + 1) else k) = (if k < n ∧ 32 < B k ∧ ¬(B k = 123 ∨ B k = 125) then wek B n f (k + 1) else k)
    by_cases z : k < n
    · rw [E k z, ih]
    · rw [if_neg (fun h => z h.1), if_neg (fun h => z h.1)]
theorem we_c (E : ∀ j, j < n → A j = B j) {k : Nat} (h : k < n) : we A n k = we B n k := by
  unfold we wn
  rw [E k h, wek_c E]
theorem txe_c (E : ∀ j, j < n → A j = B j) : ∀ (t : List Nat) (s : Nat), s + t.length ≤ n → txe A t s = txe B t s := by
  intro t
  induction t with
  | nil => intro s _; rfl
  | cons c t ih =>
    intro s h
    rw [List.length_cons] at h
    show (decide (A s = c) && txe A t (s + 1)) = (decide (B s = c) && txe B t (s + 1))
    rw [E s (by omega), ih (s + 1) (by omega)]
theorem cw_c (E : ∀ j, j < n → A j = B j) {s e : Nat} (h : s ≤ e ∧ e ≤ n) : cw A s e = cw B s e := by
  unfold cw
  congr 1
  funext t
  unfold isT
  by_cases z : t.length = e - s
  · rw [txe_c E t s (by omega)]
  · rw [decide_eq_false z]; rfl
theorem dgk_c (E : ∀ j, j < n → A j = B j) {e : Nat} (he : e ≤ n) : ∀ (f k : Nat), dgk A e f k = dgk B e f k := by
  intro f
  induction f with
  | zero => intro k; rfl
  | succ f ih =>
    intro k
    show (if k < e ∧ 48 ≤ A k ∧ A k ≤ 57 then dgk A e f (k + 1) else k) = (if k < e ∧ 48 ≤ B k ∧ B k ≤ 57 then dgk B e f (k + 1) else k)
    by_cases z : k < e
    · rw [E k (by omega), ih]
    · rw [if_neg (fun h => z h.1), if_neg (fun h => z h.1)]
theorem npt_c (E : ∀ j, j < n → A j = B j) {s e : Nat} (h : s < e ∧ e ≤ n) : npt A s e = npt B s e := by
  unfold npt de nf
  rw [E s (by omega), dgk_c E h.2]
theorem nla_c (E : ∀ j, j < n → A j = B j) {s e : Nat} (h : s < e ∧ e ≤ n) : nla A s e = nla B s e := by
  unfold nla de
  rw [npt_c E h, dgk_c E h.2]
  by_cases z : npt B s e < e
  · rw [E _ (by omega)]
  · rw [if_neg (fun y => z y.1), if_neg (fun y => z y.1)]
theorem wpr_c (E : ∀ j, j < n → A j = B j) {a : Nat} : ∀ (j : Nat), a + j ≤ n → wpr A a j = wpr B a j := by
  intro j
  induction j with
  | zero => intro _; rfl
  | succ j ih =>
    intro h
    show min (wpr A a j * 10 + (A (a + j) - 48)) 16384 = min (wpr B a j * 10 + (B (a + j) - 48)) 16384
    rw [E _ (by omega), ih (by omega)]
theorem fpr_c (E : ∀ j, j < n → A j = B j) {a e : Nat} (he : e ≤ n) : ∀ (j : Nat), fpr A a e j = fpr B a e j := by
  intro j
  induction j with
  | zero => rfl
  | succ j ih =>
    show fpr A a e j * 10 + (if a + j < e then A (a + j) - 48 else 0) = fpr B a e j * 10 + (if a + j < e then B (a + j) - 48 else 0)
    rw [ih]
    by_cases z : a + j < e
    · rw [E _ (by omega)]
    · rw [if_neg z, if_neg z]
theorem nwh_c (E : ∀ j, j < n → A j = B j) {s e : Nat} (h : s < e ∧ e ≤ n) : nwh A s e = nwh B s e := by
  unfold nwh
  rw [npt_c E h, show nf A s = nf B s from by unfold nf; rw [E s (by omega)]]
  have h1 : nf B s ≤ e := by unfold nf; split <;> omega
  have h2 : npt B s e ≤ e := de_le h1
  exact wpr_c E _ (by omega)
theorem nr_c (E : ∀ j, j < n → A j = B j) {s e : Nat} (h : s < e ∧ e ≤ n) : nr A s e = nr B s e := by
  unfold nr isn
  rw [npt_c E h, nla_c E h, nwh_c E h, show nf A s = nf B s from by unfold nf; rw [E s (by omega)]]
theorem nv_c (E : ∀ j, j < n → A j = B j) {s e : Nat} (h : s < e ∧ e ≤ n) : nv A s e = nv B s e := by
  unfold nv nfr
  rw [npt_c E h, nwh_c E h, fpr_c E h.2, E s (by omega)]
theorem prs_c (E : ∀ j, j < n → A j = B j) : ∀ (f s : Nat) (P : pP), prs A n f s P = prs B n f s P := by
  intro f
  induction f with
  | zero => intro s P; rfl
  | succ f ih =>
    intro s P
    show (if s < n then _ else _) = (if s < n then _ else _)
    by_cases z : s < n
    · have h1 : s < we B n s ∧ we B n s ≤ n := ⟨we_gt B n s, we_le z⟩
      have hc : cw A s (we B n s) = cw B s (we B n s) := cw_c E ⟨by omega, h1.2⟩
      have hp : perr A P s (we B n s) = perr B P s (we B n s) := by
        unfold perr
        rw [hc, nr_c E h1]
      have hw : wcd A s (we B n s) = wcd B s (we B n s) := by unfold wcd; rw [hc]
      have hm : wnm A s (we B n s) = wnm B s (we B n s) := by unfold wnm; rw [hc, nv_c E h1]
      rw [if_pos z, if_pos z, we_c E z, hp, hw, hm, show ws A n (we B n s) = ws B n (we B n s) from wsk_c E _ _, ih]
    · rw [if_neg z, if_neg z]
theorem prs_w (E : ∀ j, j < n → A j = B j) (P : pP) : prs A n 401 (ws A n 0) P = prs B n 401 (ws B n 0) P := by
  rw [prs_c E, show ws A n 0 = ws B n 0 from wsk_c E _ _]
end CGR
