/-! SIGNS AND WORDS of a row: sg gives the sign at a place, n is its length -/
def isb (c : Nat) : Prop := c = 123 ∨ c = 125
def wsk (sg : Nat → Nat) (n : Nat) : Nat → Nat → Nat
  | 0, k => k
  | f + 1, k => if k < n ∧ sg k ≤ 32 then wsk sg n f (k + 1) else k
/-- where the next word starts -/
def ws (sg : Nat → Nat) (n k : Nat) : Nat := wsk sg n (n - k) k
theorem ws_1 {sg : Nat → Nat} {n k : Nat} (h : k < n) (g : sg k ≤ 32) : ws sg n k = ws sg n (k + 1) := by
  unfold ws
  rw [show n - k = (n - (k + 1)) + 1 by omega]
  show (if k < n ∧ sg k ≤ 32 then _ else _) = _
  rw [if_pos ⟨h, g⟩]
theorem ws_0 {sg : Nat → Nat} {n k : Nat} (h : ¬(k < n ∧ sg k ≤ 32)) : ws sg n k = k := by
  unfold ws
  cases n - k with
  | zero => rfl
  | succ j => show (if k < n ∧ sg k ≤ 32 then _ else _) = _; rw [if_neg h]
theorem ws_ge {sg : Nat → Nat} {n : Nat} : ∀ (f k : Nat), k ≤ wsk sg n f k := by
  intro f
  induction f with
  | zero => intro k; exact Nat.le_refl _
  | succ f ih => intro k; show k ≤ if k < n ∧ sg k ≤ 32 then _ else _; split; exact Nat.le_of_succ_le (ih (k + 1)); exact Nat.le_refl _
theorem ws_le {sg : Nat → Nat} {n : Nat} : ∀ (f k : Nat), k ≤ n → wsk sg n f k ≤ n := by
  intro f
  induction f with
  | zero => intro k h; exact h
  | succ f ih => intro k h; show (if k < n ∧ sg k ≤ 32 then _ else _) ≤ n; split; exact ih (k + 1) (by omega); exact h
def wek (sg : Nat → Nat) (n : Nat) : Nat → Nat → Nat
  | 0, k => k
  | f + 1, k => if k < n ∧ 32 < sg k ∧ ¬(sg k = 123 ∨ sg k = 125) then wek sg n f (k + 1) else k
/-- where it ends, from within -/
def wn (sg : Nat → Nat) (n k : Nat) : Nat := wek sg n (n - k) k
theorem wn_1 {sg : Nat → Nat} {n k : Nat} (h : k < n ∧ 32 < sg k ∧ ¬(sg k = 123 ∨ sg k = 125)) : wn sg n k = wn sg n (k + 1) := by
  unfold wn
  rw [show n - k = (n - (k + 1)) + 1 by have := h.1; omega]
  show (if k < n ∧ 32 < sg k ∧ ¬(sg k = 123 ∨ sg k = 125) then _ else _) = _
  rw [if_pos h]
theorem wn_0 {sg : Nat → Nat} {n k : Nat} (h : ¬(k < n ∧ 32 < sg k ∧ ¬(sg k = 123 ∨ sg k = 125))) : wn sg n k = k := by
  unfold wn
  cases n - k with
  | zero => rfl
  | succ j => show (if k < n ∧ 32 < sg k ∧ ¬(sg k = 123 ∨ sg k = 125) then _ else _) = _; rw [if_neg h]
theorem wek_ge {sg : Nat → Nat} {n : Nat} : ∀ (f k : Nat), k ≤ wek sg n f k := by
  intro f
  induction f with
  | zero => intro k; exact Nat.le_refl _
  | succ f ih => intro k; show k ≤ if k < n ∧ 32 < sg k ∧ ¬(sg k = 123 ∨ sg k = 125) then _ else _; split; exact Nat.le_of_succ_le (ih (k + 1)); exact Nat.le_refl _
theorem wek_le {sg : Nat → Nat} {n : Nat} : ∀ (f k : Nat), k ≤ n → wek sg n f k ≤ n := by
  intro f
  induction f with
  | zero => intro k h; exact h
  | succ f ih => intro k h; show (if k < n ∧ 32 < sg k ∧ ¬(sg k = 123 ∨ sg k = 125) then _ else _) ≤ n; split; exact ih (k + 1) (by omega); exact h
/-- where the word that starts at k ends -/
def we (sg : Nat → Nat) (n k : Nat) : Nat := if sg k = 123 ∨ sg k = 125 then k + 1 else wn sg n (k + 1)
theorem we_gt (sg : Nat → Nat) (n k : Nat) : k < we sg n k := by
  unfold we; split
  · omega
  · exact wek_ge (n - (k + 1)) (k + 1)
theorem we_le {sg : Nat → Nat} {n k : Nat} (h : k < n) : we sg n k ≤ n := by
  unfold we; split
  · omega
  · exact wek_le _ _ (by omega)
/-- the texts of the words -/
def TX : List (List Nat) := [[123], [125], [], [116, 114, 117, 101], [102, 97, 108, 115, 101], [97, 98, 115], [110, 101, 103], [99, 101, 105, 108, 105, 110, 103], [102, 108, 111, 111, 114], [114, 111, 117, 110, 100], [116, 114, 117, 110, 99, 97, 116, 101], [99, 118, 105], [99, 118, 114], [115, 113, 114, 116], [97, 100, 100], [115, 117, 98], [109, 117, 108], [100, 105, 118], [105, 100, 105, 118], [109, 111, 100], [98, 105, 116, 115, 104, 105, 102, 116], [101, 113], [110, 101], [103, 116], [103, 101], [108, 116], [108, 101], [97, 110, 100], [111, 114], [120, 111, 114], [110, 111, 116], [112, 111, 112], [101, 120, 99, 104], [100, 117, 112], [99, 111, 112, 121], [105, 110, 100, 101, 120], [114, 111, 108, 108], [105, 102], [105, 102, 101, 108, 115, 101]]
def txe (sg : Nat → Nat) : List Nat → Nat → Bool
  | [], _ => true
  | c :: t, s => decide (sg s = c) && txe sg t (s + 1)
/-- s to e is this text -/
def isT (sg : Nat → Nat) (s e : Nat) (t : List Nat) : Bool := decide (t.length = e - s) && txe sg t s
theorem txe_get {sg : Nat → Nat} : ∀ {t : List Nat} {s : Nat}, txe sg t s = true ↔ ∀ k (h : k < t.length), sg (s + k) = t[k] := by
  intro t
  induction t with
  | nil => intro s; exact ⟨fun _ k h => absurd h (Nat.not_lt_zero k), fun _ => rfl⟩
  | cons c t ih =>
    intro s
    show (decide (sg s = c) && txe sg t (s + 1)) = true ↔ _
    rw [Bool.and_eq_true, ih, decide_eq_true_iff]
    constructor
    · rintro ⟨h1, h2⟩ k hk
      cases k with
      | zero => exact h1
      | succ k => have := h2 k (by simpa using hk); rw [show s + (k + 1) = s + 1 + k by omega]; exact this
    · intro h
      refine ⟨h 0 (by simp), fun k hk => ?_⟩
      have := h (k + 1) (by simpa using hk)
      rw [show s + 1 + k = s + (k + 1) by omega]; exact this
theorem isT_u {sg : Nat → Nat} {s e : Nat} {t u : List Nat} (h : isT sg s e t = true) (g : isT sg s e u = true) : t = u := by
  unfold isT at h g
  rw [Bool.and_eq_true, decide_eq_true_iff, txe_get] at h g
  apply List.ext_getElem (by omega)
  intro k h1 h2
  rw [← h.2 k h1, ← g.2 k h2]
/-- which word: 39 for none -/
def cw (sg : Nat → Nat) (s e : Nat) : Nat := TX.findIdx (isT sg s e)
theorem cw_le (sg : Nat → Nat) (s e : Nat) : cw sg s e ≤ 39 := List.findIdx_le_length
theorem cw_is {sg : Nat → Nat} {s e : Nat} (h : cw sg s e < 39) : isT sg s e (TX[cw sg s e]'h) = true := List.findIdx_getElem (w := h)
theorem cw_no {sg : Nat → Nat} {s e k : Nat} (h : k < cw sg s e) (hk : k < 39) : isT sg s e (TX[k]'hk) = false := by
  exact List.not_of_lt_findIdx (xs := TX) (p := isT sg s e) h
theorem TX_inj : ∀ i, i < 39 → ∀ j, j < 39 → TX[i]? = TX[j]? → i = j := by decide
theorem cw_of {sg : Nat → Nat} {s e k : Nat} (hk : k < 39) (h : isT sg s e (TX[k]'hk) = true) : cw sg s e = k := by
  have l : cw sg s e < 39 := List.findIdx_lt_length_of_exists ⟨_, List.getElem_mem hk, h⟩
  have e1 := isT_u (cw_is l) h
  exact TX_inj _ l _ hk (by rw [List.getElem?_eq_getElem l, List.getElem?_eq_getElem hk, e1])
theorem cw_iff {sg : Nat → Nat} {s e k : Nat} (hk : k < 39) : isT sg s e (TX[k]'hk) = decide (cw sg s e = k) := by
  rw [Bool.eq_iff_iff, decide_eq_true_iff]
  exact ⟨fun h => cw_of hk h, fun h => by subst h; exact cw_is hk⟩
/-! numerals -/
def dgk (sg : Nat → Nat) (e : Nat) : Nat → Nat → Nat
  | 0, k => k
  | f + 1, k => if k < e ∧ 48 ≤ sg k ∧ sg k ≤ 57 then dgk sg e f (k + 1) else k
/-- where the digits from k on end -/
def de (sg : Nat → Nat) (e k : Nat) : Nat := dgk sg e (e - k) k
theorem de_1 {sg : Nat → Nat} {e k : Nat} (h : k < e ∧ 48 ≤ sg k ∧ sg k ≤ 57) : de sg e k = de sg e (k + 1) := by
  unfold de
  rw [show e - k = (e - (k + 1)) + 1 by have := h.1; omega]
  show (if k < e ∧ 48 ≤ sg k ∧ sg k ≤ 57 then _ else _) = _
  rw [if_pos h]
theorem de_0 {sg : Nat → Nat} {e k : Nat} (h : ¬(k < e ∧ 48 ≤ sg k ∧ sg k ≤ 57)) : de sg e k = k := by
  unfold de
  cases e - k with
  | zero => rfl
  | succ j => show (if k < e ∧ 48 ≤ sg k ∧ sg k ≤ 57 then _ else _) = _; rw [if_neg h]
theorem dgk_ge {sg : Nat → Nat} {e : Nat} : ∀ (f k : Nat), k ≤ dgk sg e f k := by
  intro f
  induction f with
  | zero => intro k; exact Nat.le_refl _
  | succ f ih => intro k; show k ≤ if k < e ∧ 48 ≤ sg k ∧ sg k ≤ 57 then _ else _; split; exact Nat.le_of_succ_le (ih (k + 1)); exact Nat.le_refl _
theorem dgk_le {sg : Nat → Nat} {e : Nat} : ∀ (f k : Nat), k ≤ e → dgk sg e f k ≤ e := by
  intro f
  induction f with
  | zero => intro k h; exact h
  | succ f ih => intro k h; show (if k < e ∧ 48 ≤ sg k ∧ sg k ≤ 57 then _ else _) ≤ e; split; exact ih (k + 1) (by omega); exact h
theorem dgk_dg {sg : Nat → Nat} {e : Nat} : ∀ (f k j : Nat), k ≤ j → j < dgk sg e f k → 48 ≤ sg j ∧ sg j ≤ 57 := by
  intro f
  induction f with
  | zero => intro k j h g; exact absurd h (Nat.not_le_of_lt g)
  | succ f ih =>
    intro k j h g
    change j < (if k < e ∧ 48 ≤ sg k ∧ sg k ≤ 57 then dgk sg e f (k + 1) else k) at g
    by_cases z : k < e ∧ 48 ≤ sg k ∧ sg k ≤ 57
    · rw [if_pos z] at g
      by_cases u : j = k
      · rw [u]; exact z.2
      · exact ih (k + 1) j (by omega) g
    · rw [if_neg z] at g; omega
theorem de_ge (sg : Nat → Nat) (e k : Nat) : k ≤ de sg e k := dgk_ge _ _
theorem de_le {sg : Nat → Nat} {e k : Nat} (h : k ≤ e) : de sg e k ≤ e := dgk_le _ _ h
theorem de_dg {sg : Nat → Nat} {e k j : Nat} (h : k ≤ j) (g : j < de sg e k) : 48 ≤ sg j ∧ sg j ≤ 57 := dgk_dg _ _ _ h g
/-- behind the sign -/
def nf (sg : Nat → Nat) (s : Nat) : Nat := if sg s = 43 ∨ sg s = 45 then s + 1 else s
def npt (sg : Nat → Nat) (s e : Nat) : Nat := de sg e (nf sg s)
def nla (sg : Nat → Nat) (s e : Nat) : Nat := if npt sg s e < e ∧ sg (npt sg s e) = 46 then de sg e (npt sg s e + 1) else npt sg s e
/-- s to e is a numeral -/
def isn (sg : Nat → Nat) (s e : Nat) : Prop := ¬(npt sg s e = nf sg s ∨ nla sg s e = npt sg s e + 1 ∨ nla sg s e ≠ e)
def wpr (sg : Nat → Nat) (a : Nat) : Nat → Nat
  | 0 => 0
  | j + 1 => min (wpr sg a j * 10 + (sg (a + j) - 48)) 16384
def fpr (sg : Nat → Nat) (a e : Nat) : Nat → Nat
  | 0 => 0
  | j + 1 => fpr sg a e j * 10 + (if a + j < e then sg (a + j) - 48 else 0)
def nwh (sg : Nat → Nat) (s e : Nat) : Nat := wpr sg (nf sg s) (npt sg s e - nf sg s)
def nfr (sg : Nat → Nat) (s e : Nat) : Nat := fpr sg (npt sg s e + 1) e 9 * 65536 / 1000000000
/-- the numeral's number -/
def nv (sg : Nat → Nat) (s e : Nat) : Int := if sg s = 45 then -((nwh sg s e * 65536 + nfr sg s e : Nat) : Int) else ((nwh sg s e * 65536 + nfr sg s e : Nat) : Int)
noncomputable def nr (sg : Nat → Nat) (s e : Nat) : Int := if dc (isn sg s e) = false then 4 else if 16383 < nwh sg s e then 3 else -1
theorem wpr_le (sg : Nat → Nat) (a j : Nat) : wpr sg a j ≤ 16384 := by
  cases j with
  | zero => exact Nat.zero_le _
  | succ j => exact Nat.min_le_right _ _
/-- the reference's loop over a numeral: whole, part, unit, behind, below -/
def pst (sg : Nat → Nat) (s : Nat) : Nat → Nat × Nat × Nat × Bool × Bool
  | 0 => (0, 0, 1000000000, false, false)
  | j + 1 =>
    let x := pst sg s j
    let c := sg (s + j)
    let bl := x.2.2.2.2 || decide (c = 45)
    let bh := x.2.2.2.1 || decide (c = 46)
    if (48 ≤ c ∧ c ≤ 57) ∧ bh = false then (min (x.1 * 10 + (c - 48)) 16384, x.2.1, x.2.2.1, bh, bl)
    else if (48 ≤ c ∧ c ≤ 57) ∧ 1 < x.2.2.1 then (x.1, x.2.1 + x.2.2.1 / 10 * (c - 48), x.2.2.1 / 10, bh, bl)
    else (x.1, x.2.1, x.2.2.1, bh, bl)
theorem pst_sign {sg : Nat → Nat} {s : Nat} : pst sg s (nf sg s - s) = (0, 0, 1000000000, false, decide (sg s = 45)) := by
  unfold nf
  by_cases z : sg s = 43 ∨ sg s = 45
  · rw [if_pos z, show s + 1 - s = 0 + 1 by omega]
    show (if (48 ≤ sg (s + 0) ∧ sg (s + 0) ≤ 57) ∧ _ then _ else if (48 ≤ sg (s + 0) ∧ sg (s + 0) ≤ 57) ∧ _ then _ else (0, 0, 1000000000, (false || decide (sg (s + 0) = 46)), (false || decide (sg (s + 0) = 45)))) = _
    rw [Nat.add_zero, if_neg (fun y => by have := y.1; omega), if_neg (fun y => by have := y.1; omega), Bool.false_or, Bool.false_or, decide_eq_false (show ¬sg s = 46 by omega)]
  · rw [if_neg z, Nat.sub_self, decide_eq_false (show ¬sg s = 45 by omega)]; rfl
theorem pst_whole {sg : Nat → Nat} {s e : Nat} : ∀ {j : Nat}, j ≤ npt sg s e - nf sg s → pst sg s (nf sg s - s + j) = (wpr sg (nf sg s) j, 0, 1000000000, false, decide (sg s = 45)) := by
  intro j
  induction j with
  | zero => intro _; exact pst_sign
  | succ j ih =>
    intro l
    have hn : s ≤ nf sg s := by unfold nf; split <;> omega
    have d := de_dg (sg := sg) (e := e) (k := nf sg s) (j := nf sg s + j) (by omega) (by have : npt sg s e = de sg e (nf sg s) := rfl; omega)
    rw [show nf sg s - s + (j + 1) = (nf sg s - s + j) + 1 by omega]
    show (if (48 ≤ sg (s + (nf sg s - s + j)) ∧ sg (s + (nf sg s - s + j)) ≤ 57) ∧ ((pst sg s (nf sg s - s + j)).2.2.2.1 || decide (sg (s + (nf sg s - s + j)) = 46)) = false then (min ((pst sg s (nf sg s - s + j)).1 * 10 + (sg (s + (nf sg s - s + j)) - 48)) 16384, (pst sg s (nf sg s - s + j)).2.1, (pst sg s (nf sg s - s + j)).2.2.1, ((pst sg s (nf sg s - s + j)).2.2.2.1 || decide (sg (s + (nf sg s - s + j)) = 46)), ((pst sg s (nf sg s - s + j)).2.2.2.2 || decide (sg (s + (nf sg s - s + j)) = 45))) else _) = _
    rw [ih (by omega), show s + (nf sg s - s + j) = nf sg s + j by omega, decide_eq_false (show ¬sg (nf sg s + j) = 46 by omega), decide_eq_false (show ¬sg (nf sg s + j) = 45 by omega), if_pos ⟨d, rfl⟩, Bool.or_false, Bool.or_false]
    rfl
theorem fpr_0 {sg : Nat → Nat} {a e : Nat} (h : e ≤ a) : ∀ j, fpr sg a e j = 0 := by
  intro j
  induction j with
  | zero => rfl
  | succ j ih => show fpr sg a e j * 10 + _ = 0; rw [ih, if_neg (by omega)]
theorem pst_part {sg : Nat → Nat} {s e : Nat} (hp : npt sg s e < e ∧ sg (npt sg s e) = 46) : ∀ {j : Nat}, j ≤ nla sg s e - (npt sg s e + 1) → pst sg s (npt sg s e + 1 - s + j) = (nwh sg s e, fpr sg (npt sg s e + 1) e (min j 9) * 10 ^ (9 - min j 9), 10 ^ (9 - min j 9), true, decide (sg s = 45)) := by
  intro j
  have hn : s ≤ nf sg s := by unfold nf; split <;> omega
  have hg : nf sg s ≤ npt sg s e := de_ge _ _ _
  induction j with
  | zero =>
    intro _
    have w := pst_whole (sg := sg) (s := s) (e := e) (j := npt sg s e - nf sg s) (Nat.le_refl _)
    rw [show nf sg s - s + (npt sg s e - nf sg s) = npt sg s e - s by omega] at w
    rw [show npt sg s e + 1 - s + 0 = (npt sg s e - s) + 1 by omega]
    show (if (48 ≤ sg (s + (npt sg s e - s)) ∧ sg (s + (npt sg s e - s)) ≤ 57) ∧ _ then _ else if (48 ≤ sg (s + (npt sg s e - s)) ∧ sg (s + (npt sg s e - s)) ≤ 57) ∧ _ then _ else ((pst sg s (npt sg s e - s)).1, (pst sg s (npt sg s e - s)).2.1, (pst sg s (npt sg s e - s)).2.2.1, ((pst sg s (npt sg s e - s)).2.2.2.1 || decide (sg (s + (npt sg s e - s)) = 46)), ((pst sg s (npt sg s e - s)).2.2.2.2 || decide (sg (s + (npt sg s e - s)) = 45)))) = _
    rw [show s + (npt sg s e - s) = npt sg s e by omega, if_neg (fun y => by have := y.1; omega), if_neg (fun y => by have := y.1; omega), w, decide_eq_true hp.2, decide_eq_false (show ¬sg (npt sg s e) = 45 by omega), Bool.or_false, show (10 : Nat) ^ (9 - min 0 9) = 1000000000 by decide]
    show (nwh sg s e, 0, 1000000000, true, _) = (nwh sg s e, 0 * 1000000000, 1000000000, true, _)
    rw [Nat.zero_mul]
  | succ j ih =>
    intro l
    have hla : nla sg s e = de sg e (npt sg s e + 1) := if_pos hp
    have d := de_dg (sg := sg) (e := e) (k := npt sg s e + 1) (j := npt sg s e + 1 + j) (by omega) (by omega)
    have le := de_le (sg := sg) (e := e) (k := npt sg s e + 1) (by omega)
    rw [show npt sg s e + 1 - s + (j + 1) = (npt sg s e + 1 - s + j) + 1 by omega]
    generalize hq : npt sg s e + 1 - s + j = q at ih ⊢
    have i := ih (by omega)
    show (if (48 ≤ sg (s + q) ∧ sg (s + q) ≤ 57) ∧ ((pst sg s q).2.2.2.1 || decide (sg (s + q) = 46)) = false then _ else if (48 ≤ sg (s + q) ∧ sg (s + q) ≤ 57) ∧ 1 < (pst sg s q).2.2.1 then ((pst sg s q).1, (pst sg s q).2.1 + (pst sg s q).2.2.1 / 10 * (sg (s + q) - 48), (pst sg s q).2.2.1 / 10, ((pst sg s q).2.2.2.1 || decide (sg (s + q) = 46)), ((pst sg s q).2.2.2.2 || decide (sg (s + q) = 45))) else ((pst sg s q).1, (pst sg s q).2.1, (pst sg s q).2.2.1, ((pst sg s q).2.2.2.1 || decide (sg (s + q) = 46)), ((pst sg s q).2.2.2.2 || decide (sg (s + q) = 45)))) = _
    rw [i, show s + q = npt sg s e + 1 + j by omega, if_neg (fun y => by have := y.2; simp at this), decide_eq_false (show ¬sg (npt sg s e + 1 + j) = 45 by omega), Bool.or_false, Bool.true_or]
    by_cases z : j < 9
    · rw [show min j 9 = j by omega, show min (j + 1) 9 = j + 1 by omega, show 9 - j = (9 - (j + 1)) + 1 by omega, Nat.pow_succ]
      have p1 : 1 ≤ 10 ^ (9 - (j + 1)) := Nat.pos_of_ne_zero (by simp)
      rw [if_pos ⟨d, by show 1 < 10 ^ (9 - (j + 1)) * 10; omega⟩]
      show (_, fpr sg (npt sg s e + 1) e j * (10 ^ (9 - (j + 1)) * 10) + 10 ^ (9 - (j + 1)) * 10 / 10 * (sg (npt sg s e + 1 + j) - 48), 10 ^ (9 - (j + 1)) * 10 / 10, _, _) = (_, (fpr sg (npt sg s e + 1) e j * 10 + (if npt sg s e + 1 + j < e then sg (npt sg s e + 1 + j) - 48 else 0)) * 10 ^ (9 - (j + 1)), _, _, _)
      rw [Nat.mul_div_cancel _ (by decide : 0 < 10), if_pos (by omega), Nat.add_mul, Nat.mul_assoc, Nat.mul_comm 10 (10 ^ (9 - (j + 1))), Nat.mul_comm (10 ^ (9 - (j + 1))) (sg (npt sg s e + 1 + j) - 48)]
    · rw [show min j 9 = 9 by omega, show min (j + 1) 9 = 9 by omega]
      rw [if_neg (fun y => absurd (show 1 < 10 ^ (9 - 9) from y.2) (by decide))]
theorem fpr_up {sg : Nat → Nat} {a e L : Nat} (h : e ≤ a + L) : ∀ k, fpr sg a e (L + k) = fpr sg a e L * 10 ^ k := by
  intro k
  induction k with
  | zero => rw [Nat.pow_zero, Nat.mul_one]; rfl
  | succ k ih => show fpr sg a e (L + k) * 10 + (if a + (L + k) < e then sg (a + (L + k)) - 48 else 0) = _; rw [ih, if_neg (by omega), Nat.pow_succ, Nat.add_zero, Nat.mul_assoc]
theorem pst_end {sg : Nat → Nat} {s e : Nat} (h : isn sg s e) : (pst sg s (e - s)).1 = nwh sg s e ∧ (pst sg s (e - s)).2.1 = fpr sg (npt sg s e + 1) e 9 ∧ (pst sg s (e - s)).2.2.2.2 = decide (sg s = 45) := by
  have hn : s ≤ nf sg s := by unfold nf; split <;> omega
  have hg : nf sg s ≤ npt sg s e := de_ge _ _ _
  have h1 : npt sg s e ≠ nf sg s := fun z => h (Or.inl z)
  have h2 : nla sg s e = e := Classical.byContradiction fun z => h (Or.inr (Or.inr z))
  by_cases hp : npt sg s e < e ∧ sg (npt sg s e) = 46
  · have w := pst_part hp (j := nla sg s e - (npt sg s e + 1)) (Nat.le_refl _)
    have hla : nla sg s e = de sg e (npt sg s e + 1) := if_pos hp
    have := de_ge sg e (npt sg s e + 1)
    rw [show npt sg s e + 1 - s + (nla sg s e - (npt sg s e + 1)) = e - s by omega] at w
    rw [w]
    refine ⟨rfl, ?_, rfl⟩
    show fpr sg (npt sg s e + 1) e (min (nla sg s e - (npt sg s e + 1)) 9) * 10 ^ (9 - min (nla sg s e - (npt sg s e + 1)) 9) = _
    by_cases z : nla sg s e - (npt sg s e + 1) ≤ 9
    · have u := fpr_up (sg := sg) (a := npt sg s e + 1) (e := e) (L := nla sg s e - (npt sg s e + 1)) (by omega) (9 - (nla sg s e - (npt sg s e + 1)))
      rw [show nla sg s e - (npt sg s e + 1) + (9 - (nla sg s e - (npt sg s e + 1))) = 9 by omega] at u
      rw [show min (nla sg s e - (npt sg s e + 1)) 9 = nla sg s e - (npt sg s e + 1) by omega, u]
    · rw [show min (nla sg s e - (npt sg s e + 1)) 9 = 9 by omega]
      exact Nat.mul_one _
  · have hla : nla sg s e = npt sg s e := if_neg hp
    have w := pst_whole (sg := sg) (s := s) (e := e) (j := npt sg s e - nf sg s) (Nat.le_refl _)
    rw [show nf sg s - s + (npt sg s e - nf sg s) = e - s by omega] at w
    rw [w]
    exact ⟨rfl, (fpr_0 (by omega) 9).symm, rfl⟩
/-- a numeral is none of the words -/
theorem isn_cw {sg : Nat → Nat} {s e : Nat} (h : isn sg s e) (l : s < e) : cw sg s e = 39 := by
  apply Classical.byContradiction
  intro z
  have l39 : cw sg s e < 39 := by have := cw_le sg s e; omega
  have t := cw_is l39
  unfold isT at t
  rw [Bool.and_eq_true, decide_eq_true_iff, txe_get] at t
  have key : ∀ i, (hi : i < 39) → (TX[i]'hi) = [] ∨ 97 ≤ (TX[i]'hi).headD 0 := by decide
  rcases key _ l39 with k | k1
  · rw [k] at t; have := t.1; simp at this; omega
  · generalize TX[cw sg s e]'l39 = u at t k1
    cases u with
    | nil => exact absurd k1 (by decide)
    | cons c r =>
    have c0 : sg (s + 0) = c := t.2 0 (by simp)
    have k1' : 97 ≤ c := k1
    rw [Nat.add_zero] at c0
    apply h
    refine Or.inl ?_
    have e1 : nf sg s = s := if_neg (by omega)
    show de sg e (nf sg s) = nf sg s
    rw [e1]
    exact de_0 (by omega)
theorem nwh_le (sg : Nat → Nat) (s e : Nat) : nwh sg s e ≤ 16384 := wpr_le _ _ _
theorem fpr_lt {sg : Nat → Nat} {a e : Nat} (h : ∀ j, a ≤ j → j < e → 48 ≤ sg j ∧ sg j ≤ 57) : ∀ j, fpr sg a e j < 10 ^ j := by
  intro j
  induction j with
  | zero => show 0 < 1; decide
  | succ j ih =>
    show fpr sg a e j * 10 + _ < _
    rw [Nat.pow_succ]
    by_cases z : a + j < e
    · have := h (a + j) (by omega) z
      rw [if_pos z]; omega
    · rw [if_neg z]; omega
theorem nfr_lt {sg : Nat → Nat} {s e : Nat} (h : isn sg s e) : nfr sg s e < 65536 := by
  have h2 : nla sg s e = e := Classical.byContradiction fun z => h (Or.inr (Or.inr z))
  have := fpr_lt (sg := sg) (a := npt sg s e + 1) (e := e) (fun j l1 l2 => by
    by_cases hp : npt sg s e < e ∧ sg (npt sg s e) = 46
    · have hla : nla sg s e = de sg e (npt sg s e + 1) := if_pos hp
      exact de_dg (e := e) l1 (by omega)
    · have hla : nla sg s e = npt sg s e := if_neg hp
      omega) 9
  unfold nfr
  omega
