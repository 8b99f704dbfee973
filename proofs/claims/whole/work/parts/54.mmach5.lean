def shi {α : Type} (d k : Nat) (f : Nat → α) : Nat → α := fun j => if d - k < j ∧ j < d then f (j - 1) else f j
theorem shi_1 {α : Type} (d : Nat) (f : Nat → α) : shi d 1 f = f := by
  funext j
  unfold shi
  rw [if_neg (by omega)]
theorem prt_0 {α : Type} (r m : Nat) (f : Nat → α) : prt r m 0 f = f := by
  funext j
  unfold prt
  by_cases h : r - m ≤ j ∧ j < r
  · rw [if_pos h, if_pos (by omega)]; rfl
  · rw [if_neg h]
theorem yt_1 (M : x_M) (f : Nat → Int64) (g : Nat → Int32) : (y_A (y_L M 3 f) 13 g).1 = M.1 := rfl
theorem yt_0 (M : x_M) : y_A (y_L M 3 (M.2.2 3)) 13 (M.2.1 13) = M := by
  rw [y_L0, y_A0]
theorem y_Lg (M : x_M) (k : Nat) (f : Nat → Int64) : (y_L M k f).2.2 k = f := va_up_self _ _ _
theorem y_Ag (M : x_M) (k : Nat) (f : Nat → Int32) : (y_A M k f).2.1 k = f := va_up_self _ _ _
theorem yl_1 (M : x_M) (k j : Nat) (x : Int64) : (y_l M k j x).1 = M.1 := rfl
theorem yt_rl (M : x_M) (f : Nat → Int64) (g : Nat → Int32) : (y_A (y_L M 3 f) 13 g).2.2 3 = f := y_Lg M 3 f
theorem yt_rt (M : x_M) (f : Nat → Int64) (g : Nat → Int32) : (y_A (y_L M 3 f) 13 g).2.1 13 = g := y_Ag (y_L M 3 f) 13 g
theorem yt_l (M : x_M) (f : Nat → Int64) (g : Nat → Int32) (j : Nat) (x : Int64) : y_l (y_A (y_L M 3 f) 13 g) 3 j x = y_A (y_L M 3 (vp_updL f j x)) 13 g := by
  unfold y_l
  rw [yt_rl]
  exact congrArg (fun z => (M.1, va_up M.2.1 13 g, z)) (bx_uu _ _ _ _)
theorem yt_t (M : x_M) (f : Nat → Int64) (g : Nat → Int32) (j : Nat) (x : Int32) : y_a (y_A (y_L M 3 f) 13 g) 13 j x = y_A (y_L M 3 f) 13 (upd g j x) := by
  unfold y_a
  rw [yt_rt]
  exact congrArg (fun z => (M.1, z, va_up M.2.2 3 f)) (bx_uu _ _ _ _)
theorem updL_s (f : Nat → Int64) (k : Nat) (x : Int64) : vp_updL f k x k = x := by simp [vp_updL]
theorem updL_n {f : Nat → Int64} {k j : Nat} {x : Int64} (h : j ≠ k) : vp_updL f k x j = f j := by simp [vp_updL, h]
theorem shi_s {α : Type} {d i : Nat} {f : Nat → α} (h1 : 1 ≤ i) (h2 : i < d) (j : Nat) : shi d (i + 1) f j = if j = d - i then shi d i f (d - i - 1) else shi d i f j := by
  unfold shi
  by_cases e : j = d - i
  · rw [if_pos e, if_neg (show ¬ (d - i < d - i - 1 ∧ d - i - 1 < d) by omega), if_pos (by omega), e]
  · rw [if_neg e]
    by_cases z : d - i < j ∧ j < d
    · rw [if_pos z, if_pos (by omega)]
    · rw [if_neg z, if_neg (by omega)]
theorem prt_s {α : Type} {d m k : Nat} {f : Nat → α} (h1 : 1 ≤ m) (h2 : m ≤ d) (hk : k + 1 ≤ m) (j : Nat) : prt d m (k + 1) f j = if j = d - m then prt d m k f (d - 1) else shi d m (prt d m k f) j := by
  unfold shi
  by_cases e : j = d - m
  · rw [if_pos e, e]
    unfold prt
    rw [if_pos (by omega), if_neg (by omega), if_pos (by omega), if_pos (by omega)]
    congr 1
    omega
  · rw [if_neg e]
    by_cases z : d - m < j ∧ j < d
    · rw [if_pos z]
      have c1 : d - m ≤ j ∧ j < d := by omega
      have c2 : d - m ≤ j - 1 ∧ j - 1 < d := by omega
      unfold prt
      rw [if_pos c1, if_pos c2]
      by_cases y : d - m + (k + 1) ≤ j
      · rw [if_pos y, if_pos (show d - m + k ≤ j - 1 by omega)]
        congr 1
        omega
      · rw [if_neg y, if_neg (show ¬ d - m + k ≤ j - 1 by omega)]
        congr 1
        omega
    · rw [if_neg z]
      unfold prt
      rw [if_neg (by omega), if_neg (by omega)]
theorem prt_z {d m k : Nat} {g : Nat → Int32} (hz : ∀ j, j < d → vp_nar .boolean (g j) = g j) (hk : k ≤ m) (hm : m ≤ d) : ∀ j, j < d → vp_nar .boolean (prt d m k g j) = prt d m k g j := by
  intro j hj
  unfold prt
  by_cases z : d - m ≤ j ∧ j < d
  · rw [if_pos z]
    by_cases y : d - m + k ≤ j
    · rw [if_pos y]; exact hz _ (by omega)
    · rw [if_neg y]; exact hz _ (by omega)
  · rw [if_neg z]; exact hz j hj
theorem shi_z {d i : Nat} {g : Nat → Int32} (hz : ∀ j, j < d → vp_nar .boolean (g j) = g j) : ∀ j, j < d → vp_nar .boolean (shi d i g j) = shi d i g j := by
  intro j hj
  unfold shi
  by_cases z : d - i < j ∧ j < d
  · rw [if_pos z]; exact hz _ (by omega)
  · rw [if_neg z]; exact hz j hj
theorem yt_b (M : x_M) {n m0 k i : Nat} (hi : i < m0) (hk : k ≤ m0) (h1 : 1 ≤ i) (hm : m0 ≤ n) (hn : n ≤ 60) (hz : ∀ j, j < n → vp_nar .boolean (M.2.1 13 j) = M.2.1 13 j) :
    y_a (y_l (y_A (y_L M 3 (shi n i (prt n m0 k (M.2.2 3)))) 13 (shi n i (prt n m0 k (M.2.1 13)))) 3 (n - i) ((y_A (y_L M 3 (shi n i (prt n m0 k (M.2.2 3)))) 13 (shi n i (prt n m0 k (M.2.1 13)))).2.2 3 (n - i - 1))) 13 (n - i) (vp_nar .boolean ((y_l (y_A (y_L M 3 (shi n i (prt n m0 k (M.2.2 3)))) 13 (shi n i (prt n m0 k (M.2.1 13)))) 3 (n - i) ((y_A (y_L M 3 (shi n i (prt n m0 k (M.2.2 3)))) 13 (shi n i (prt n m0 k (M.2.1 13)))).2.2 3 (n - i - 1))).2.1 13 (n - i - 1))) = y_A (y_L M 3 (shi n (i + 1) (prt n m0 k (M.2.2 3)))) 13 (shi n (i + 1) (prt n m0 k (M.2.1 13))) := by
  simp only [yt_l, yt_t, yt_rl, yt_rt]
  rw [shi_z (prt_z hz hk hm) _ (by omega)]
  congr 1
  · congr 1
    funext j
    rw [shi_s h1 (by omega)]
    by_cases e : j = n - i
    · rw [if_pos e, e, updL_s]
    · rw [if_neg e, updL_n e]
  · funext j
    rw [shi_s h1 (by omega)]
    by_cases e : j = n - i
    · rw [if_pos e, e, upd_s]
    · rw [if_neg e, upd_n e]
theorem yt_e (M : x_M) {n i k : Nat} (h1 : 1 ≤ i) (h2 : i ≤ n) (hk : k + 1 ≤ i) (hz : ∀ j, j < n → vp_nar .boolean (M.2.1 13 j) = M.2.1 13 j) :
    y_a (y_l (y_A (y_L M 3 (shi n i (prt n i k (M.2.2 3)))) 13 (shi n i (prt n i k (M.2.1 13)))) 3 (n - i) (prt n i k (M.2.2 3) (n - 1))) 13 (n - i) (vp_nar .boolean (prt n i k (M.2.1 13) (n - 1))) = y_A (y_L M 3 (prt n i (k + 1) (M.2.2 3))) 13 (prt n i (k + 1) (M.2.1 13)) := by
  simp only [yt_l, yt_t]
  rw [prt_z hz (by omega) h2 _ (by omega)]
  congr 1
  · congr 1
    funext j
    rw [prt_s h1 h2 hk]
    by_cases e : j = n - i
    · rw [if_pos e, e, updL_s]
    · rw [if_neg e, updL_n e]
  · funext j
    rw [prt_s h1 h2 hk]
    by_cases e : j = n - i
    · rw [if_pos e, e, upd_s]
    · rw [if_neg e, upd_n e]
theorem fl_a {a b : Int} (ha : -16384 ≤ a ∧ a ≤ 16384) (hb : 0 < b ∧ b ≤ 16384) : 0 ≤ lg_cmp (lZ a ^^^ lZ b) (Int64.ofNat ((0 : Fin 2) : Nat)) ↔ 0 ≤ a := by
  have h := lx_neg (lZ a) (lZ b)
  rw [lZ_t ⟨by omega, by omega⟩, lZ_t ⟨by omega, by omega⟩] at h
  rw [lZ_c0, lg_cmp_ge, Int64.le_iff_toInt_le, show (lZ 0).toInt = 0 from rfl]
  constructor
  · intro z
    by_cases y : 0 ≤ a
    · exact y
    · have := h.mpr (fun w => by have := w.mp (by omega); omega); omega
  · intro z
    by_cases y : 0 ≤ (lZ a ^^^ lZ b).toInt
    · exact y
    · exact absurd (show a < 0 ↔ b < 0 by omega) (h.mp (by omega))
theorem fl_p {a b : Int} (ha : -16384 ≤ a ∧ a ≤ 16384) (hb : 0 < b ∧ b ≤ 16384) (q : 0 ≤ lg_cmp (lZ a ^^^ lZ b) (Int64.ofNat ((0 : Fin 2) : Nat))) : a.tmod b = a % b := Int.tmod_eq_emod_of_nonneg ((fl_a ha hb).mp q)
theorem fl_t {a b : Int} (ha : -16384 ≤ a ∧ a ≤ 16384) (hb : 0 < b ∧ b ≤ 16384) : lg_cmp (lZ (a.tmod b)) (Int64.ofNat ((0 : Fin 2) : Nat)) = 0 ↔ a.tmod b = 0 := by
  rw [lZ_c0, lc_eq (zI_L (zI_tmod ha ⟨by omega, by omega⟩)) ⟨by decide, by decide⟩]
theorem fl_z {a b : Int} (ha : -16384 ≤ a ∧ a ≤ 16384) (hb : 0 < b ∧ b ≤ 16384) (q : lg_cmp (lZ (a.tmod b)) (Int64.ofNat ((0 : Fin 2) : Nat)) = 0) : a.tmod b = a % b := by
  have h1 := (fl_t ha hb).mp q
  rw [h1, Int.emod_eq_zero_of_dvd (Int.dvd_of_tmod_eq_zero h1)]
theorem fl_n {a b : Int} (ha : -16384 ≤ a ∧ a ≤ 16384) (hb : 0 < b ∧ b ≤ 16384) (q : ¬ 0 ≤ lg_cmp (lZ a ^^^ lZ b) (Int64.ofNat ((0 : Fin 2) : Nat))) (q2 : ¬ lg_cmp (lZ (a.tmod b)) (Int64.ofNat ((0 : Fin 2) : Nat)) = 0) : a.tmod b + b = a % b := by
  have h0 : a < 0 := by have := mt (fl_a ha hb).mpr q; omega
  refine fm_n ha hb (fun z => by have := (fm_a ha hb).mp z; omega) (fun z => q2 ((fl_t ha hb).mpr ?_))
  exact (iZ_eq (b := 0) (zI_tmod ha ⟨by omega, by omega⟩) ⟨by decide, by decide⟩).mp z
/-- the m below r, k of them copied above r -/
def pcq {α : Type} (r m k : Nat) (f : Nat → α) : Nat → α := fun j => if r ≤ j ∧ j < r + k then f (j - m) else f j
theorem pcq_0 {α : Type} (r m : Nat) (f : Nat → α) : pcq r m 0 f = f := by
  funext j
  unfold pcq
  rw [if_neg (by omega)]
theorem pcq_l {α : Type} {r m k j : Nat} {f : Nat → α} (h : j < r) : pcq r m k f j = f j := by unfold pcq; rw [if_neg (by omega)]
theorem pcq_s {α : Type} (r m k : Nat) (f : Nat → α) : va_up (pcq r m k f) (r + k) (f (r + k - m)) = pcq r m (k + 1) f := by
  funext j
  by_cases e : j = r + k
  · subst e; rw [va_up_self]; unfold pcq; rw [if_pos (by omega)]
  · rw [va_up_ne _ _ e]; unfold pcq
    by_cases z : r ≤ j ∧ j < r + k
    · rw [if_pos z, if_pos (by omega)]
    · rw [if_neg z, if_neg (by omega)]
theorem pg_ok {n : Nat} {u : Nat → Int} {t : Nat → Bool} {x : Int} {b : Bool} (h : n < 60) : pgive n u t 0 x b = (-1, n + 1, va_up u n (zk x), va_up t n b) := by unfold pgive; rw [if_neg (by omega)]; rfl
set_option maxHeartbeats 4000000 in
set_option maxRecDepth 100000 in
theorem M_turn_m {l : Launch} {G : ax_G} (S : x_S) (M : x_M) (tl : List va_E) (n m0 K : Nat) (hn : n ≤ 60) (hm : 1 ≤ m0 ∧ m0 ≤ n) (hK : K ≤ m0) (hs : M.1 9 = nI n) (hz : ∀ j, j < n → vp_nar .boolean (M.2.1 13 j) = M.2.1 13 j) :
    AM l VV G M_turn_y M_turn_c 10 none 0 0 0 [.ref 153, .int (nI m0), .long (lZ K)] (x_hM S M tl) (fun v h' => v = none ∧ h' = x_hM S (y_A (y_L M 3 (prt n m0 K (M.2.2 3))) 13 (prt n m0 K (M.2.1 13))) tl) := by
  refine AM.of (pl := pl_M) (by decide) v_good fl_M_ok kl_M_ok nofun (Nat.le_of_ble_eq_true rfl) ?_
  intro p e s m args below meth c X
  refine AW.run X M_turn_d 0 2 rfl ?_
  have L3 : ∀ (t2 k : Nat), k ≤ K → K - k < t2 → AW p l e (ax_R 0 0 0) s m args below meth c VV G 10 (x_hM S (y_A (y_L M 3 (prt n m0 k (M.2.2 3))) 13 (prt n m0 k (M.2.1 13))) tl) 0 0 (MQ below (ax_Q VV G (fun v h' => v = none ∧ h' = x_hM S (y_A (y_L M 3 (prt n m0 K (M.2.2 3))) 13 (prt n m0 K (M.2.1 13))) tl)) args s 0 0 (fun q => G.bs ≤ q)) 3 [(4, .long (lZ k)), (0, .ref 153), (1, .int (nI m0)), (2, .long (lZ K))] [] := by
    intro t2
    induction t2 with
    | zero => intro k h1 h2; exact absurd h2 (by omega)
    | succ t2 ih =>
      intro k h1 h2
      refine AW.run X M_turn_d 2 3 rfl ?_
      refine AW.if_ge X (M_turn_d.d 5 rfl) (fun q5 => ?_) (fun q5 => ?_)
      · exact AW.vret X (M_turn_d.d 82 rfl) (Nat.le_of_ble_eq_true rfl) (Nat.le_of_ble_eq_true rfl) ⟨rfl, by rw [show k = K by have := (lc_ge (a := (k : Int)) (b := (K : Int)) ⟨by omega, by omega⟩ ⟨by omega, by omega⟩).mp q5; omega]⟩
      · have hk : k < K := by
          have := mt (lc_ge (a := (k : Int)) (b := (K : Int)) ⟨by omega, by omega⟩ ⟨by omega, by omega⟩).mpr q5
          omega
        refine AW.run X M_turn_d 6 6 rfl ?_
        refine AW.mll3 (j := n - 1) X (by rw [yt_1, hs]; exact pk_sub (b := 1) (by omega)) (show n - 1 < 60 by omega) (M_turn_d.d 12 rfl) ?_
        refine AW.run X M_turn_d 13 7 rfl ?_
        refine AW.ml13 (j := n - 1) X (by rw [yt_1, hs]; exact pk_sub (b := 1) (by omega)) (show n - 1 < 60 by omega) (M_turn_d.d 20 rfl) ?_
        refine AW.run X M_turn_d 21 3 rfl ?_
        have L39 : ∀ (t3 i : Nat), 1 ≤ i → i ≤ m0 → m0 - i < t3 → AW p l e (ax_R 0 0 0) s m args below meth c VV G 10 (x_hM S (y_A (y_L M 3 (shi n i (prt n m0 k (M.2.2 3)))) 13 (shi n i (prt n m0 k (M.2.1 13)))) tl) 0 0 (MQ below (ax_Q VV G (fun v h' => v = none ∧ h' = x_hM S (y_A (y_L M 3 (prt n m0 K (M.2.2 3))) 13 (prt n m0 K (M.2.1 13))) tl)) args s 0 0 (fun q => G.bs ≤ q)) 39 [(9, .int (nI i)), (8, .int (prt n m0 k (M.2.1 13) (n - 1))), (6, .long (prt n m0 k (M.2.2 3) (n - 1))), (4, .long (lZ k)), (0, .ref 153), (1, .int (nI m0)), (2, .long (lZ K))] [] := by
          intro t3
          induction t3 with
          | zero => intro i h3 h4 h5; exact absurd h5 (by omega)
          | succ t3 ih3 =>
            intro i h3 h4 h5
            refine AW.run X M_turn_d 24 2 rfl ?_
            refine AW.icmp_ge X (M_turn_d.d 26 rfl) (fun q26 => ?_) (fun q26 => ?_)
            · have hi : i = m0 := by have := cge q26; omega
              subst hi
              refine AW.run X M_turn_d 61 7 rfl ?_
              refine AW.msl3 (j := n - i) X (by rw [yt_1, hs]; exact pk_sub (by omega)) (by omega) (M_turn_d.d 68 rfl) ?_
              refine AW.run X M_turn_d 69 7 rfl ?_
              refine AW.ms13 (j := n - i) X (by rw [yl_1, yt_1, hs]; exact pk_sub (by omega)) (by omega) (M_turn_d.d 76 rfl) ?_
              refine AW.run X M_turn_d 77 4 rfl ?_
              refine AW.goto X (M_turn_d.d 81 rfl) ?_
              refine AW.pk [0, 4, 5, 6] rfl ?_
              rw [show Int64.ofNat ((1 : Fin 2) : Nat) = lZ 1 from lZ_c1, lZ_add]
              exact AW.eq (h' := x_hM S (y_A (y_L M 3 (prt n i (k + 1) (M.2.2 3))) 13 (prt n i (k + 1) (M.2.1 13))) tl) (congrArg (fun z => x_hM S z tl) (yt_e M hm.1 hm.2 (by omega) hz)) (ih (k + 1) (by omega) (by omega))
            · have hi : i < m0 := clt q26
              refine AW.run X M_turn_d 27 14 rfl ?_
              refine AW.mll3 (j := n - i - 1) X (by rw [yt_1, hs, show nI n - nI i = nI (n - i) from pk_sub (by omega)]; exact pk_sub (b := 1) (by omega)) (by omega) (M_turn_d.d 41 rfl) ?_
              refine AW.msl3 (j := n - i) X (by rw [yt_1, hs]; exact pk_sub (by omega)) (by omega) (M_turn_d.d 42 rfl) ?_
              refine AW.run X M_turn_d 43 14 rfl ?_
              refine AW.ml13 (j := n - i - 1) X (by rw [yl_1, yt_1, hs, show nI n - nI i = nI (n - i) from pk_sub (by omega)]; exact pk_sub (b := 1) (by omega)) (by omega) (M_turn_d.d 57 rfl) ?_
              refine AW.ms13 (j := n - i) X (by rw [yl_1, yt_1, hs]; exact pk_sub (by omega)) (by omega) (M_turn_d.d 58 rfl) ?_
              refine AW.run X M_turn_d 59 1 rfl ?_
              refine AW.goto X (M_turn_d.d 60 rfl) ?_
              rw [nI_o1]
              exact AW.eq (h' := x_hM S (y_A (y_L M 3 (shi n (i + 1) (prt n m0 k (M.2.2 3)))) 13 (shi n (i + 1) (prt n m0 k (M.2.1 13)))) tl) (congrArg (fun z => x_hM S z tl) (yt_b M (by omega) (by omega) h3 hm.2 (by omega) hz)) (ih3 (i + 1) (by omega) (by omega) (by omega))
        rw [yt_rl, yt_rt]
        exact AW.eq (h' := x_hM S (y_A (y_L M 3 (shi n 1 (prt n m0 k (M.2.2 3)))) 13 (shi n 1 (prt n m0 k (M.2.1 13)))) tl) (by rw [shi_1, shi_1]) (L39 (m0 + 1) 1 (by omega) (by omega) (by omega))
  exact AW.eq (h' := x_hM S (y_A (y_L M 3 (prt n m0 0 (M.2.2 3))) 13 (prt n m0 0 (M.2.1 13))) tl) (by rw [prt_0, prt_0, yt_0]) (L3 (K + 1) 0 (by omega) (by omega))

set_option maxHeartbeats 4000000 in
set_option maxRecDepth 100000 in
theorem JMath_floorMod2_m {l : Launch} {G : ax_G} {h : List va_E} (a b : Int) (ha : -16384 ≤ a ∧ a ≤ 16384) (hb : 0 < b ∧ b ≤ 16384) :
    AM l VV G JMath_floorMod2_y JMath_floorMod2_c 6 (some .long) 0 0 0 [.long (lZ a), .long (lZ b)] (h) (fun v h' => v = some (.long (lZ (a % b))) ∧ h' = h) := by
  refine AM.ofF (pl := pl_JMath) JMath_floorMod2_pf v_good fl_JMath_ok kl_JMath_ok nofun (Nat.le_of_ble_eq_true rfl) ?_
  intro p e s m args below meth c X
  refine AW.run X JMath_floorMod2_d 0 2 rfl ?_
  refine AW.lrem X (JMath_floorMod2_d.d 2 rfl) (by rw [show (0 : Int64) = lZ 0 from rfl, lZ_eq ⟨by omega, by omega⟩ ⟨by decide, by decide⟩]; omega) ?_
  rw [lZ_rem (a := a) (b := b) ⟨by omega, by omega⟩ ⟨by omega, by omega⟩]
  refine AW.run X JMath_floorMod2_d 3 6 rfl ?_
  refine AW.if_ge X (JMath_floorMod2_d.d 9 rfl) (fun q9 => ?_) (fun q9 => ?_)
  · refine AW.run X JMath_floorMod2_d 18 1 rfl ?_
    exact AW.lret X (JMath_floorMod2_d.d 19 rfl) (Nat.le_of_ble_eq_true rfl) (Nat.le_of_ble_eq_true rfl) ⟨by rw [fl_p ha hb q9], rfl⟩
  · refine AW.run X JMath_floorMod2_d 10 3 rfl ?_
    refine AW.if_eq X (JMath_floorMod2_d.d 13 rfl) (fun q13 => ?_) (fun q13 => ?_)
    · refine AW.run X JMath_floorMod2_d 18 1 rfl ?_
      exact AW.lret X (JMath_floorMod2_d.d 19 rfl) (Nat.le_of_ble_eq_true rfl) (Nat.le_of_ble_eq_true rfl) ⟨by rw [fl_z ha hb q13], rfl⟩
    · refine AW.run X JMath_floorMod2_d 14 3 rfl ?_
      exact AW.lret X (JMath_floorMod2_d.d 17 rfl) (Nat.le_of_ble_eq_true rfl) (Nat.le_of_ble_eq_true rfl) ⟨by rw [lZ_add, fl_n ha hb q9 q13], rfl⟩

set_option maxHeartbeats 4000000 in
set_option maxRecDepth 100000 in
theorem M_isAmount0_m {l : Launch} {G : ax_G} (S : x_S) (M : x_M) (tl : List va_E) (n : Nat) (u : Nat → Int) (t : Nat → Bool) (hG : gd M) (hW : WS n u t) (hM : MS M n u t) (hn : 0 + 1 ≤ n) :
    AM l VV G M_isAmount_y M_isAmount_c 2 (some .boolean) 2 0 0 [.ref 153, .int (nI 0)] (x_hM S M tl) (fun v h' => (0 ≤ u (n - 1) ∧ v = some (.int (bI true)) ∧ h' = x_hM S M tl) ∨ (u (n - 1) < 0 ∧ v = some (.int (bI false)) ∧ h' = x_hM S (bad M 12) tl)) := by
  refine AM.of (pl := pl_M) (by decide) v_good fl_M_ok kl_M_ok nofun (Nat.le_of_ble_eq_true rfl) ?_
  intro p e s m args below meth c X
  refine AW.run X M_isAmount_d 0 1 rfl ?_
  refine AW.callV (As := []) X (M_isGoodG_m S M tl hG) cb_M_349 rfl rfl M_isGood_im M_isGood_se rfl ⟨Nat.le_of_ble_eq_true rfl, Nat.le_of_ble_eq_true rfl⟩ (Nat.le_of_ble_eq_true rfl) ⟨Nat.le_of_ble_eq_true rfl, Nat.le_of_ble_eq_true rfl⟩ (M_isAmount_d.d 1 rfl) (fun v h' q => ?_)
  obtain ⟨rfl, rfl⟩ := q
  refine AW.if_eq X (M_isAmount_d.d 2 rfl) (fun q2 => absurd q2 (by decide)) (fun q2 => ?_)
  refine AW.run X M_isAmount_d 3 8 rfl ?_
  refine AW.mll3 (j := n - 1) X (by rw [show M.1 9 - Int32.ofInt 1 = nI (n - 1) from hM.i (k := 1) (by omega)]; exact (pk_sub (b := 0) (by omega))) (by have := hW.1; omega) (M_isAmount_d.d 11 rfl) ?_
  rw [(hM.2 (n - 1) (by omega)).1]
  refine AW.run X M_isAmount_d 12 2 rfl ?_
  refine AW.if_ge X (M_isAmount_d.d 14 rfl) (fun q14 => ?_) (fun q14 => ?_)
  · refine AW.run X M_isAmount_d 18 1 rfl ?_
    refine AW.callV (As := []) X (M_isGoodG_m S M tl hG) cb_M_349 rfl rfl M_isGood_im M_isGood_se rfl ⟨Nat.le_of_ble_eq_true rfl, Nat.le_of_ble_eq_true rfl⟩ (Nat.le_of_ble_eq_true rfl) ⟨Nat.le_of_ble_eq_true rfl, Nat.le_of_ble_eq_true rfl⟩ (M_isAmount_d.d 19 rfl) (fun v h' q => ?_)
    obtain ⟨rfl, rfl⟩ := q
    exact AW.zret X (bI_nar _) (M_isAmount_d.d 20 rfl) (Nat.le_of_ble_eq_true rfl) (Nat.le_of_ble_eq_true rfl) (Or.inl ⟨(lc_ge (a := u (n - 1)) (b := 0) (zN_L (hW.2 (n - 1) (by omega)).1) ⟨by decide, by decide⟩).mp q14, rfl, rfl⟩)
  · refine AW.run X M_isAmount_d 15 2 rfl ?_
    refine AW.callV (As := [.int (iZ 12)]) X (M_failG_m S M tl 12 hG) cb_M_356 rfl rfl M_fail_im M_fail_se rfl ⟨Nat.le_of_ble_eq_true rfl, Nat.le_of_ble_eq_true rfl⟩ (Nat.le_of_ble_eq_true rfl) ⟨Nat.le_of_ble_eq_true rfl, Nat.le_of_ble_eq_true rfl⟩ (M_isAmount_d.d 17 rfl) (fun v h' q => ?_)
    obtain ⟨rfl, rfl⟩ := q
    refine AW.run X M_isAmount_d 18 1 rfl ?_
    refine AW.callV (As := []) X (M_isGoodB_m S (bad M 12) tl (by rw [bad_3]; decide)) cb_M_349 rfl rfl M_isGood_im M_isGood_se rfl ⟨Nat.le_of_ble_eq_true rfl, Nat.le_of_ble_eq_true rfl⟩ (Nat.le_of_ble_eq_true rfl) ⟨Nat.le_of_ble_eq_true rfl, Nat.le_of_ble_eq_true rfl⟩ (M_isAmount_d.d 19 rfl) (fun v h' q => ?_)
    obtain ⟨rfl, rfl⟩ := q
    exact AW.zret X (bI_nar _) (M_isAmount_d.d 20 rfl) (Nat.le_of_ble_eq_true rfl) (Nat.le_of_ble_eq_true rfl) (Or.inr ⟨Int.not_le.mp (mt (lc_ge (a := u (n - 1)) (b := 0) (zN_L (hW.2 (n - 1) (by omega)).1) ⟨by decide, by decide⟩).mpr q14), rfl, rfl⟩)

set_option maxHeartbeats 4000000 in
set_option maxRecDepth 100000 in
theorem M_isAmount1_m {l : Launch} {G : ax_G} (S : x_S) (M : x_M) (tl : List va_E) (n : Nat) (u : Nat → Int) (t : Nat → Bool) (hG : gd M) (hW : WS n u t) (hM : MS M n u t) (hn : 1 + 1 ≤ n) :
    AM l VV G M_isAmount_y M_isAmount_c 2 (some .boolean) 2 0 0 [.ref 153, .int (nI 1)] (x_hM S M tl) (fun v h' => (0 ≤ u (n - 1 - 1) ∧ v = some (.int (bI true)) ∧ h' = x_hM S M tl) ∨ (u (n - 1 - 1) < 0 ∧ v = some (.int (bI false)) ∧ h' = x_hM S (bad M 12) tl)) := by
  refine AM.of (pl := pl_M) (by decide) v_good fl_M_ok kl_M_ok nofun (Nat.le_of_ble_eq_true rfl) ?_
  intro p e s m args below meth c X
  refine AW.run X M_isAmount_d 0 1 rfl ?_
  refine AW.callV (As := []) X (M_isGoodG_m S M tl hG) cb_M_349 rfl rfl M_isGood_im M_isGood_se rfl ⟨Nat.le_of_ble_eq_true rfl, Nat.le_of_ble_eq_true rfl⟩ (Nat.le_of_ble_eq_true rfl) ⟨Nat.le_of_ble_eq_true rfl, Nat.le_of_ble_eq_true rfl⟩ (M_isAmount_d.d 1 rfl) (fun v h' q => ?_)
  obtain ⟨rfl, rfl⟩ := q
  refine AW.if_eq X (M_isAmount_d.d 2 rfl) (fun q2 => absurd q2 (by decide)) (fun q2 => ?_)
  refine AW.run X M_isAmount_d 3 8 rfl ?_
  refine AW.mll3 (j := n - 1 - 1) X (by rw [show M.1 9 - Int32.ofInt 1 = nI (n - 1) from hM.i (k := 1) (by omega)]; exact (pk_sub (b := 1) (by omega))) (by have := hW.1; omega) (M_isAmount_d.d 11 rfl) ?_
  rw [(hM.2 (n - 1 - 1) (by omega)).1]
  refine AW.run X M_isAmount_d 12 2 rfl ?_
  refine AW.if_ge X (M_isAmount_d.d 14 rfl) (fun q14 => ?_) (fun q14 => ?_)
  · refine AW.run X M_isAmount_d 18 1 rfl ?_
    refine AW.callV (As := []) X (M_isGoodG_m S M tl hG) cb_M_349 rfl rfl M_isGood_im M_isGood_se rfl ⟨Nat.le_of_ble_eq_true rfl, Nat.le_of_ble_eq_true rfl⟩ (Nat.le_of_ble_eq_true rfl) ⟨Nat.le_of_ble_eq_true rfl, Nat.le_of_ble_eq_true rfl⟩ (M_isAmount_d.d 19 rfl) (fun v h' q => ?_)
    obtain ⟨rfl, rfl⟩ := q
    exact AW.zret X (bI_nar _) (M_isAmount_d.d 20 rfl) (Nat.le_of_ble_eq_true rfl) (Nat.le_of_ble_eq_true rfl) (Or.inl ⟨(lc_ge (a := u (n - 1 - 1)) (b := 0) (zN_L (hW.2 (n - 1 - 1) (by omega)).1) ⟨by decide, by decide⟩).mp q14, rfl, rfl⟩)
  · refine AW.run X M_isAmount_d 15 2 rfl ?_
    refine AW.callV (As := [.int (iZ 12)]) X (M_failG_m S M tl 12 hG) cb_M_356 rfl rfl M_fail_im M_fail_se rfl ⟨Nat.le_of_ble_eq_true rfl, Nat.le_of_ble_eq_true rfl⟩ (Nat.le_of_ble_eq_true rfl) ⟨Nat.le_of_ble_eq_true rfl, Nat.le_of_ble_eq_true rfl⟩ (M_isAmount_d.d 17 rfl) (fun v h' q => ?_)
    obtain ⟨rfl, rfl⟩ := q
    refine AW.run X M_isAmount_d 18 1 rfl ?_
    refine AW.callV (As := []) X (M_isGoodB_m S (bad M 12) tl (by rw [bad_3]; decide)) cb_M_349 rfl rfl M_isGood_im M_isGood_se rfl ⟨Nat.le_of_ble_eq_true rfl, Nat.le_of_ble_eq_true rfl⟩ (Nat.le_of_ble_eq_true rfl) ⟨Nat.le_of_ble_eq_true rfl, Nat.le_of_ble_eq_true rfl⟩ (M_isAmount_d.d 19 rfl) (fun v h' q => ?_)
    obtain ⟨rfl, rfl⟩ := q
    exact AW.zret X (bI_nar _) (M_isAmount_d.d 20 rfl) (Nat.le_of_ble_eq_true rfl) (Nat.le_of_ble_eq_true rfl) (Or.inr ⟨Int.not_le.mp (mt (lc_ge (a := u (n - 1 - 1)) (b := 0) (zN_L (hW.2 (n - 1 - 1) (by omega)).1) ⟨by decide, by decide⟩).mpr q14), rfl, rfl⟩)

set_option maxHeartbeats 4000000 in
set_option maxRecDepth 100000 in
theorem M_index_m {l : Launch} {G : ax_G} (S : x_S) (M : x_M) (tl : List va_E) (n : Nat) (u : Nat → Int) (t : Nat → Bool) (hG : gd M) (hW : WS n u t) (hM : MS M n u t) (num : Int) :
    AM l VV G M_index_y M_index_c 3 none 5 0 0 [.ref 153] (x_hM S M tl) (fun v h' => v = none ∧ mp S tl M (pS 35 num n u t) h') := by
  refine AM.of (pl := pl_M) (by decide) v_good fl_M_ok kl_M_ok nofun (Nat.le_of_ble_eq_true rfl) ?_
  intro p e s m args below meth c X
  refine AW.run X M_index_d 0 2 rfl ?_
  refine AW.callV (As := [.int (nI 1)]) X (M_areWhole1_m S M tl n u t hG hW hM) cb_M_423 rfl rfl M_areWhole_im M_areWhole_se rfl ⟨Nat.le_of_ble_eq_true rfl, Nat.le_of_ble_eq_true rfl⟩ (Nat.le_of_ble_eq_true rfl) ⟨Nat.le_of_ble_eq_true rfl, Nat.le_of_ble_eq_true rfl⟩ (M_index_d.d 2 rfl) (fun v h' q => ?_)
  rcases q with ⟨hc, rfl, rfl⟩ | ⟨hc, rfl, rfl⟩
  · have hn := pa1_n hc
    have hp := pa1_p hc
    have hw1 := pwh1_w hp
    refine AW.if_eq X (M_index_d.d 3 rfl) (fun q3 => absurd q3 (by decide)) (fun q3 => ?_)
    refine AW.run X M_index_d 4 2 rfl ?_
    refine AW.callV (As := [.int (nI 0)]) X (M_isAmount0_m S M tl n u t hG hW hM (by omega)) cb_M_457 rfl rfl M_isAmount_im M_isAmount_se rfl ⟨Nat.le_of_ble_eq_true rfl, Nat.le_of_ble_eq_true rfl⟩ (Nat.le_of_ble_eq_true rfl) ⟨Nat.le_of_ble_eq_true rfl, Nat.le_of_ble_eq_true rfl⟩ (M_index_d.d 6 rfl) (fun v h' q => ?_)
    rcases q with ⟨ha0, rfl, rfl⟩ | ⟨ha0, rfl, rfl⟩
    · refine AW.if_ne X (M_index_d.d 7 rfl) (fun q7 => ?_) (fun q7 => absurd q7 (by decide))
      refine AW.run X M_index_d 9 1 rfl ?_
      refine AW.callV (As := []) X (M_take_m S M tl n u t hW.1 hM (by omega)) cb_M_392 rfl rfl M_take_im M_take_se rfl ⟨Nat.le_of_ble_eq_true rfl, Nat.le_of_ble_eq_true rfl⟩ (Nat.le_of_ble_eq_true rfl) ⟨Nat.le_of_ble_eq_true rfl, Nat.le_of_ble_eq_true rfl⟩ (M_index_d.d 10 rfl) (fun v h' q => ?_)
      obtain ⟨rfl, rfl⟩ := q
      refine AW.run X M_index_d 11 1 rfl ?_
      refine AW.ldiv X (M_index_d.d 12 rfl) (by decide) ?_
      rw [lZ_dw (hW.2 (n - 1) (by omega)).1 hw1]
      refine AW.run X M_index_d 13 4 rfl ?_
      refine AW.run X M_index_d 17 1 rfl ?_
      rw [show (y_i M 9 (nI (n - 1))).1 9 = nI (n - 1) from y_ig _ _ _, show (nI (n - 1)).toInt64 = lZ ((n - 1 : Nat) : Int) from by rw [iZ_n]; exact iZ_l ⟨by have := hW.1; omega, by have := hW.1; omega⟩]
      refine AW.run X M_index_d 18 1 rfl ?_
      refine AW.if_lt X (M_index_d.d 19 rfl) (fun q19 => ?_) (fun q19 => ?_)
      · have hlt := (lc_lt (a := (u (n - 1) / 65536)) (b := ((n - 1 : Nat) : Int)) ⟨by have := (zN_q (hW.2 (n - 1) (by omega)).1); omega, by have := (zN_q (hW.2 (n - 1) (by omega)).1); omega⟩ ⟨by have := hW.1; omega, by have := hW.1; omega⟩).mp q19
        have hn60 := hW.1
        have hj0 : 0 ≤ (u (n - 1) / 65536) := by omega
        refine AW.run X M_index_d 24 10 rfl ?_
        refine AW.mll3 (j := n - 2 - (u (n - 1) / 65536).toNat) X (by rw [show (y_i M 9 (nI (n - 1))).1 9 = nI (n - 1) from y_ig _ _ _, lZ_i, show nI (n - 1) - Int32.ofInt 1 = nI (n - 1 - 1) from pk_sub (b := 1) (by omega), show iZ (u (n - 1) / 65536) = nI (u (n - 1) / 65536).toNat from by rw [iZ_n]; congr 1; omega, show n - 1 - 1 = n - 2 by omega]; exact pk_sub (by omega)) (by have := hW.1; omega) (M_index_d.d 34 rfl) ?_
        rw [show (y_i M 9 (nI (n - 1))).2.2 3 (n - 2 - (u (n - 1) / 65536).toNat) = M.2.2 3 (n - 2 - (u (n - 1) / 65536).toNat) from rfl, (hM.2 (n - 2 - (u (n - 1) / 65536).toNat) (by omega)).1]
        refine AW.run X M_index_d 35 9 rfl ?_
        refine AW.ml13 (j := n - 2 - (u (n - 1) / 65536).toNat) X (by rw [show (y_i M 9 (nI (n - 1))).1 9 = nI (n - 1) from y_ig _ _ _, lZ_i, show nI (n - 1) - Int32.ofInt 1 = nI (n - 1 - 1) from pk_sub (b := 1) (by omega), show iZ (u (n - 1) / 65536) = nI (u (n - 1) / 65536).toNat from by rw [iZ_n]; congr 1; omega, show n - 1 - 1 = n - 2 by omega]; exact pk_sub (by omega)) (by have := hW.1; omega) (M_index_d.d 44 rfl) ?_
        rw [show (y_i M 9 (nI (n - 1))).2.1 13 (n - 2 - (u (n - 1) / 65536).toNat) = M.2.1 13 (n - 2 - (u (n - 1) / 65536).toNat) from rfl, (hM.2 (n - 2 - (u (n - 1) / 65536).toNat) (by omega)).2]
        refine AW.callV (As := [.long (lZ (u (n - 2 - (u (n - 1) / 65536).toNat))), .int (bI (t (n - 2 - (u (n - 1) / 65536).toNat)))]) X (M_put_m S (y_i M 9 (nI (n - 1))) tl (n - 1) u t (u (n - 2 - (u (n - 1) / 65536).toNat)) (t (n - 2 - (u (n - 1) / 65536).toNat)) (gd_i (by decide) hG) (by have := hW.1; omega) hM.tk (zN_L (hW.2 (n - 2 - (u (n - 1) / 65536).toNat) (by omega)).1) (fun _ => zk_id (hW.2 (n - 2 - (u (n - 1) / 65536).toNat) (by omega)).1)) cb_M_359 rfl rfl M_put_im M_put_se rfl ⟨Nat.le_of_ble_eq_true rfl, Nat.le_of_ble_eq_true rfl⟩ (Nat.le_of_ble_eq_true rfl) ⟨Nat.le_of_ble_eq_true rfl, Nat.le_of_ble_eq_true rfl⟩ (M_index_d.d 45 rfl) (fun v h' q => ?_)
        obtain ⟨rfl, q⟩ := q
        exact AW.vret X (M_index_d.d 46 rfl) (Nat.le_of_ble_eq_true rfl) (Nat.le_of_ble_eq_true rfl) ⟨rfl, mp_tr (MFr.d _ _) (by rw [pS_35]; unfold pindex; rw [if_neg (by omega), if_neg (fun z => z hp), if_neg (by omega), if_neg (by omega)]; exact pg_sh (by omega) hn hW.1) q⟩
      · refine AW.run X M_index_d 20 2 rfl ?_
        refine AW.callV (As := [.int (iZ 9)]) X (M_failG_m S (y_i M 9 (nI (n - 1))) tl 9 (gd_i (by decide) hG)) cb_M_356 rfl rfl M_fail_im M_fail_se rfl ⟨Nat.le_of_ble_eq_true rfl, Nat.le_of_ble_eq_true rfl⟩ (Nat.le_of_ble_eq_true rfl) ⟨Nat.le_of_ble_eq_true rfl, Nat.le_of_ble_eq_true rfl⟩ (M_index_d.d 22 rfl) (fun v h' q => ?_)
        obtain ⟨rfl, rfl⟩ := q
        refine AW.goto X (M_index_d.d 23 rfl) ?_
        exact AW.vret X (M_index_d.d 46 rfl) (Nat.le_of_ble_eq_true rfl) (Nat.le_of_ble_eq_true rfl) ⟨rfl, mp_bad' (MFr.d _ _) (by rw [pS_35]; unfold pindex; rw [if_neg (by omega), if_neg (fun z => z hp), if_neg (by omega), if_pos (by have := mt (lc_lt (a := (u (n - 1) / 65536)) (b := ((n - 1 : Nat) : Int)) ⟨by have := (zN_q (hW.2 (n - 1) (by omega)).1); omega, by have := (zN_q (hW.2 (n - 1) (by omega)).1); omega⟩ ⟨by have := hW.1; omega, by have := hW.1; omega⟩).mpr q19; omega)]; rfl) (by decide)⟩
    · refine AW.if_ne X (M_index_d.d 7 rfl) (fun q7 => absurd q7 (by decide)) (fun q7 => ?_)
      exact AW.vret X (M_index_d.d 8 rfl) (Nat.le_of_ble_eq_true rfl) (Nat.le_of_ble_eq_true rfl) ⟨rfl, mp_bad (by rw [pS_35]; unfold pindex; rw [if_neg (by omega), if_neg (fun z => z hp), if_pos (by omega)]; rfl) (by decide)⟩
  · refine AW.if_eq X (M_index_d.d 3 rfl) (fun q3 => ?_) (fun q3 => absurd q3 (by decide))
    exact AW.vret X (M_index_d.d 8 rfl) (Nat.le_of_ble_eq_true rfl) (Nat.le_of_ble_eq_true rfl) ⟨rfl, mp_bad (by rw [pS_35]; unfold pindex; exact pa1_b hc) hc⟩

set_option maxHeartbeats 4000000 in
set_option maxRecDepth 100000 in
theorem M_copy_m {l : Launch} {G : ax_G} (S : x_S) (M : x_M) (tl : List va_E) (n : Nat) (u : Nat → Int) (t : Nat → Bool) (hG : gd M) (hW : WS n u t) (hM : MS M n u t) (num : Int) :
    AM l VV G M_copy_y M_copy_c 4 none 5 0 0 [.ref 153] (x_hM S M tl) (fun v h' => v = none ∧ mp S tl M (pS 34 num n u t) h') := by
  refine AM.of (pl := pl_M) (by decide) v_good fl_M_ok kl_M_ok nofun (Nat.le_of_ble_eq_true rfl) ?_
  intro p e s m args below meth c X
  refine AW.run X M_copy_d 0 2 rfl ?_
  refine AW.callV (As := [.int (nI 1)]) X (M_areWhole1_m S M tl n u t hG hW hM) cb_M_423 rfl rfl M_areWhole_im M_areWhole_se rfl ⟨Nat.le_of_ble_eq_true rfl, Nat.le_of_ble_eq_true rfl⟩ (Nat.le_of_ble_eq_true rfl) ⟨Nat.le_of_ble_eq_true rfl, Nat.le_of_ble_eq_true rfl⟩ (M_copy_d.d 2 rfl) (fun v h' q => ?_)
  rcases q with ⟨hc, rfl, rfl⟩ | ⟨hc, rfl, rfl⟩
  · have hn := pa1_n hc
    have hp := pa1_p hc
    have hw1 := pwh1_w hp
    refine AW.if_eq X (M_copy_d.d 3 rfl) (fun q3 => absurd q3 (by decide)) (fun q3 => ?_)
    refine AW.run X M_copy_d 4 2 rfl ?_
    refine AW.callV (As := [.int (nI 0)]) X (M_isAmount0_m S M tl n u t hG hW hM (by omega)) cb_M_457 rfl rfl M_isAmount_im M_isAmount_se rfl ⟨Nat.le_of_ble_eq_true rfl, Nat.le_of_ble_eq_true rfl⟩ (Nat.le_of_ble_eq_true rfl) ⟨Nat.le_of_ble_eq_true rfl, Nat.le_of_ble_eq_true rfl⟩ (M_copy_d.d 6 rfl) (fun v h' q => ?_)
    rcases q with ⟨ha0, rfl, rfl⟩ | ⟨ha0, rfl, rfl⟩
    · refine AW.if_ne X (M_copy_d.d 7 rfl) (fun q7 => ?_) (fun q7 => absurd q7 (by decide))
      refine AW.run X M_copy_d 9 1 rfl ?_
      refine AW.callV (As := []) X (M_take_m S M tl n u t hW.1 hM (by omega)) cb_M_392 rfl rfl M_take_im M_take_se rfl ⟨Nat.le_of_ble_eq_true rfl, Nat.le_of_ble_eq_true rfl⟩ (Nat.le_of_ble_eq_true rfl) ⟨Nat.le_of_ble_eq_true rfl, Nat.le_of_ble_eq_true rfl⟩ (M_copy_d.d 10 rfl) (fun v h' q => ?_)
      obtain ⟨rfl, rfl⟩ := q
      refine AW.run X M_copy_d 11 1 rfl ?_
      refine AW.ldiv X (M_copy_d.d 12 rfl) (by decide) ?_
      rw [lZ_dw (hW.2 (n - 1) (by omega)).1 hw1]
      refine AW.run X M_copy_d 13 4 rfl ?_
      refine AW.run X M_copy_d 17 1 rfl ?_
      rw [show (y_i M 9 (nI (n - 1))).1 9 = nI (n - 1) from y_ig _ _ _, show (nI (n - 1)).toInt64 = lZ ((n - 1 : Nat) : Int) from by rw [iZ_n]; exact iZ_l ⟨by have := hW.1; omega, by have := hW.1; omega⟩]
      refine AW.run X M_copy_d 18 1 rfl ?_
      refine AW.if_le X (M_copy_d.d 19 rfl) (fun q19 => ?_) (fun q19 => ?_)
      · have hle := (lc_le (a := (u (n - 1) / 65536)) (b := ((n - 1 : Nat) : Int)) ⟨by have := (zN_q (hW.2 (n - 1) (by omega)).1); omega, by have := (zN_q (hW.2 (n - 1) (by omega)).1); omega⟩ ⟨by have := hW.1; omega, by have := hW.1; omega⟩).mp q19
        have hn60 := hW.1
        have hj0 : 0 ≤ (u (n - 1) / 65536) := by omega
        refine AW.run X M_copy_d 24 2 rfl ?_
        refine AW.run X M_copy_d 26 1 rfl ?_
        rw [show (y_i M 9 (nI (n - 1))).1 9 = nI (n - 1) from y_ig _ _ _, show (nI (n - 1)).toInt64 = lZ ((n - 1 : Nat) : Int) from by rw [iZ_n]; exact iZ_l ⟨by have := hW.1; omega, by have := hW.1; omega⟩]
        refine AW.run X M_copy_d 27 3 rfl ?_
        rw [lZ_add, show (60 : Int64) = lZ 60 from rfl]
        refine AW.run X M_copy_d 30 1 rfl ?_
        refine AW.if_le X (M_copy_d.d 31 rfl) (fun q31 => ?_) (fun q31 => ?_)
        · refine AW.run X M_copy_d 35 2 rfl ?_
          have L67 : ∀ (t2 k : Nat) (M2 : x_M), (k : Int) ≤ (u (n - 1) / 65536) → (u (n - 1) / 65536).toNat - k < t2 → MFr M M2 → gd M2 → MS M2 (n - 1 + k) (pcq (n - 1) (u (n - 1) / 65536).toNat k u) (pcq (n - 1) (u (n - 1) / 65536).toNat k t) → AW p l e (ax_R 5 0 0) s m args below meth c VV G 4 (x_hM S M2 tl) 0 0 (MQ below (ax_Q VV G (fun v h' => v = none ∧ mp S tl M (pS 34 num n u t) h')) args s 0 0 (fun q => G.bs ≤ q)) 67 [(3, .int (nI k)), (1, .long (lZ (u (n - 1) / 65536))), (0, .ref 153)] [] := by
            have h60 : ((n - 1 : Nat) : Int) + (u (n - 1) / 65536) ≤ 60 := (lc_le ⟨by omega, by omega⟩ ⟨by decide, by decide⟩).mp q31
            intro t2
            induction t2 with
            | zero => intro k M2 h1 h2; exact absurd h2 (by omega)
            | succ t2 ih =>
              intro k M2 h1 h2 g1 g2 g3
              refine AW.run X M_copy_d 37 1 rfl ?_
              refine AW.run X M_copy_d 38 1 rfl ?_
              have hb1 := (zN_q (hW.2 (n - 1) (by omega)).1)
              rw [show (nI k).toInt64 = lZ (k : Int) from by rw [iZ_n]; exact iZ_l ⟨by omega, by omega⟩]
              refine AW.run X M_copy_d 39 2 rfl ?_
              refine AW.if_ge X (M_copy_d.d 41 rfl) (fun q41 => ?_) (fun q41 => ?_)
              · exact AW.vret X (M_copy_d.d 65 rfl) (Nat.le_of_ble_eq_true rfl) (Nat.le_of_ble_eq_true rfl) ⟨rfl, M2, rfl, g1, fun _ => ⟨g2, by
                  have hkJ : k = (u (n - 1) / 65536).toNat := by have := (lc_ge (a := (k : Int)) (b := (u (n - 1) / 65536)) ⟨by omega, by omega⟩ ⟨by omega, by omega⟩).mp q41; omega
                  rw [pS_34]; unfold pcopy; rw [if_neg (by omega), if_neg (fun z => z hp), if_neg (by omega), if_neg (by omega), if_neg (by omega)]
                  subst hkJ
                  exact g3⟩, fun z => absurd (by rw [pS_34]; unfold pcopy; rw [if_neg (by omega), if_neg (fun z => z hp), if_neg (by omega), if_neg (by omega), if_neg (by omega)]) z⟩
              · refine AW.run X M_copy_d 42 1 rfl ?_
                have hk : (k : Int) < (u (n - 1) / 65536) := Int.not_le.mp (mt (lc_ge (a := (k : Int)) (b := (u (n - 1) / 65536)) ⟨by omega, by omega⟩ ⟨by omega, by omega⟩).mpr q41)
                refine AW.callV (As := []) X (M_isGoodG_m S M2 tl g2) cb_M_349 rfl rfl M_isGood_im M_isGood_se rfl ⟨Nat.le_of_ble_eq_true rfl, Nat.le_of_ble_eq_true rfl⟩ (Nat.le_of_ble_eq_true rfl) ⟨Nat.le_of_ble_eq_true rfl, Nat.le_of_ble_eq_true rfl⟩ (M_copy_d.d 43 rfl) (fun v h' q => ?_)
                obtain ⟨rfl, rfl⟩ := q
                refine AW.if_eq X (M_copy_d.d 44 rfl) (fun q44 => absurd q44 (by decide)) (fun q44 => ?_)
                refine AW.run X M_copy_d 45 8 rfl ?_
                refine AW.mll3 (j := n - 1 + k - (u (n - 1) / 65536).toNat) X (by rw [g3.1, lZ_i, show iZ (u (n - 1) / 65536) = nI (u (n - 1) / 65536).toNat from by rw [iZ_n]; congr 1; omega]; exact pk_sub (by omega)) (by omega) (M_copy_d.d 53 rfl) ?_
                rw [(g3.2 (n - 1 + k - (u (n - 1) / 65536).toNat) (by omega)).1, pcq_l (by omega)]
                refine AW.run X M_copy_d 54 7 rfl ?_
                refine AW.ml13 (j := n - 1 + k - (u (n - 1) / 65536).toNat) X (by rw [g3.1, lZ_i, show iZ (u (n - 1) / 65536) = nI (u (n - 1) / 65536).toNat from by rw [iZ_n]; congr 1; omega]; exact pk_sub (by omega)) (by omega) (M_copy_d.d 61 rfl) ?_
                rw [(g3.2 (n - 1 + k - (u (n - 1) / 65536).toNat) (by omega)).2, pcq_l (by omega)]
                refine AW.callV (As := [.long (lZ (u (n - 1 + k - (u (n - 1) / 65536).toNat))), .int (bI (t (n - 1 + k - (u (n - 1) / 65536).toNat)))]) X (M_put_m S M2 tl (n - 1 + k) (pcq (n - 1) (u (n - 1) / 65536).toNat k u) (pcq (n - 1) (u (n - 1) / 65536).toNat k t) (u (n - 1 + k - (u (n - 1) / 65536).toNat)) (t (n - 1 + k - (u (n - 1) / 65536).toNat)) g2 (by omega) g3 (zN_L (hW.2 (n - 1 + k - (u (n - 1) / 65536).toNat) (by omega)).1) (fun _ => zk_id (hW.2 (n - 1 + k - (u (n - 1) / 65536).toNat) (by omega)).1)) cb_M_359 rfl rfl M_put_im M_put_se rfl ⟨Nat.le_of_ble_eq_true rfl, Nat.le_of_ble_eq_true rfl⟩ (Nat.le_of_ble_eq_true rfl) ⟨Nat.le_of_ble_eq_true rfl, Nat.le_of_ble_eq_true rfl⟩ (M_copy_d.d 62 rfl) (fun v h' q => ?_)
                obtain ⟨rfl, q⟩ := q
                obtain ⟨M3, rfl, f1, f2, -⟩ := q
                rw [pg_ok (show n - 1 + k < 60 by omega)] at f2
                obtain ⟨f3, f4⟩ := f2 rfl
                refine AW.run X M_copy_d 63 1 rfl ?_
                refine AW.goto X (M_copy_d.d 64 rfl) ?_
                rw [nI_o1]
                exact ih (k + 1) M3 (by omega) (by omega) (g1.trans f1) f3 (by rw [← pcq_s, ← pcq_s]; rw [zk_id (hW.2 (n - 1 + k - (u (n - 1) / 65536).toNat) (by omega)).1] at f4; exact f4)
          exact L67 ((u (n - 1) / 65536).toNat + 1) 0 (y_i M 9 (nI (n - 1))) (by omega) (by omega) (MFr.d _ _) (gd_i (by decide) hG) (by rw [pcq_0, pcq_0]; exact hM.tk)
        · refine AW.run X M_copy_d 32 2 rfl ?_
          refine AW.callV (As := [.int (iZ 8)]) X (M_failG_m S (y_i M 9 (nI (n - 1))) tl 8 (gd_i (by decide) hG)) cb_M_356 rfl rfl M_fail_im M_fail_se rfl ⟨Nat.le_of_ble_eq_true rfl, Nat.le_of_ble_eq_true rfl⟩ (Nat.le_of_ble_eq_true rfl) ⟨Nat.le_of_ble_eq_true rfl, Nat.le_of_ble_eq_true rfl⟩ (M_copy_d.d 34 rfl) (fun v h' q => ?_)
          obtain ⟨rfl, rfl⟩ := q
          refine AW.run X M_copy_d 35 6 rfl ?_
          refine AW.if_ge X (M_copy_d.d 41 rfl) (fun q41 => ?_) (fun q41 => ?_)
          · exact AW.vret X (M_copy_d.d 65 rfl) (Nat.le_of_ble_eq_true rfl) (Nat.le_of_ble_eq_true rfl) ⟨rfl, mp_bad' (MFr.d _ _) (by rw [pS_34]; unfold pcopy; rw [if_neg (by omega), if_neg (fun z => z hp), if_neg (by omega), if_neg (by omega), if_pos (by have := mt (lc_le (a := ((n - 1 : Nat) : Int) + (u (n - 1) / 65536)) (b := 60) ⟨by omega, by omega⟩ ⟨by decide, by decide⟩).mpr q31; omega)]; rfl) (by decide)⟩
          · refine AW.run X M_copy_d 42 1 rfl ?_
            refine AW.callV (As := []) X (M_isGoodB_m S (bad (y_i M 9 (nI (n - 1))) 8) tl (by rw [bad_3]; decide)) cb_M_349 rfl rfl M_isGood_im M_isGood_se rfl ⟨Nat.le_of_ble_eq_true rfl, Nat.le_of_ble_eq_true rfl⟩ (Nat.le_of_ble_eq_true rfl) ⟨Nat.le_of_ble_eq_true rfl, Nat.le_of_ble_eq_true rfl⟩ (M_copy_d.d 43 rfl) (fun v h' q => ?_)
            obtain ⟨rfl, rfl⟩ := q
            refine AW.if_eq X (M_copy_d.d 44 rfl) (fun q44 => ?_) (fun q44 => absurd q44 (by decide))
            exact AW.vret X (M_copy_d.d 65 rfl) (Nat.le_of_ble_eq_true rfl) (Nat.le_of_ble_eq_true rfl) ⟨rfl, mp_bad' (MFr.d _ _) (by rw [pS_34]; unfold pcopy; rw [if_neg (by omega), if_neg (fun z => z hp), if_neg (by omega), if_neg (by omega), if_pos (by have := mt (lc_le (a := ((n - 1 : Nat) : Int) + (u (n - 1) / 65536)) (b := 60) ⟨by omega, by omega⟩ ⟨by decide, by decide⟩).mpr q31; omega)]; rfl) (by decide)⟩
      · refine AW.run X M_copy_d 20 2 rfl ?_
        refine AW.callV (As := [.int (iZ 9)]) X (M_failG_m S (y_i M 9 (nI (n - 1))) tl 9 (gd_i (by decide) hG)) cb_M_356 rfl rfl M_fail_im M_fail_se rfl ⟨Nat.le_of_ble_eq_true rfl, Nat.le_of_ble_eq_true rfl⟩ (Nat.le_of_ble_eq_true rfl) ⟨Nat.le_of_ble_eq_true rfl, Nat.le_of_ble_eq_true rfl⟩ (M_copy_d.d 22 rfl) (fun v h' q => ?_)
        obtain ⟨rfl, rfl⟩ := q
        refine AW.goto X (M_copy_d.d 23 rfl) ?_
        refine AW.run X M_copy_d 35 6 rfl ?_
        refine AW.if_ge X (M_copy_d.d 41 rfl) (fun q41 => ?_) (fun q41 => ?_)
        · exact AW.vret X (M_copy_d.d 65 rfl) (Nat.le_of_ble_eq_true rfl) (Nat.le_of_ble_eq_true rfl) ⟨rfl, mp_bad' (MFr.d _ _) (by rw [pS_34]; unfold pcopy; rw [if_neg (by omega), if_neg (fun z => z hp), if_neg (by omega), if_pos (by have := mt (lc_le (a := (u (n - 1) / 65536)) (b := ((n - 1 : Nat) : Int)) ⟨by have := (zN_q (hW.2 (n - 1) (by omega)).1); omega, by have := (zN_q (hW.2 (n - 1) (by omega)).1); omega⟩ ⟨by have := hW.1; omega, by have := hW.1; omega⟩).mpr q19; omega)]; rfl) (by decide)⟩
        · refine AW.run X M_copy_d 42 1 rfl ?_
          refine AW.callV (As := []) X (M_isGoodB_m S (bad (y_i M 9 (nI (n - 1))) 9) tl (by rw [bad_3]; decide)) cb_M_349 rfl rfl M_isGood_im M_isGood_se rfl ⟨Nat.le_of_ble_eq_true rfl, Nat.le_of_ble_eq_true rfl⟩ (Nat.le_of_ble_eq_true rfl) ⟨Nat.le_of_ble_eq_true rfl, Nat.le_of_ble_eq_true rfl⟩ (M_copy_d.d 43 rfl) (fun v h' q => ?_)
          obtain ⟨rfl, rfl⟩ := q
          refine AW.if_eq X (M_copy_d.d 44 rfl) (fun q44 => ?_) (fun q44 => absurd q44 (by decide))
          exact AW.vret X (M_copy_d.d 65 rfl) (Nat.le_of_ble_eq_true rfl) (Nat.le_of_ble_eq_true rfl) ⟨rfl, mp_bad' (MFr.d _ _) (by rw [pS_34]; unfold pcopy; rw [if_neg (by omega), if_neg (fun z => z hp), if_neg (by omega), if_pos (by have := mt (lc_le (a := (u (n - 1) / 65536)) (b := ((n - 1 : Nat) : Int)) ⟨by have := (zN_q (hW.2 (n - 1) (by omega)).1); omega, by have := (zN_q (hW.2 (n - 1) (by omega)).1); omega⟩ ⟨by have := hW.1; omega, by have := hW.1; omega⟩).mpr q19; omega)]; rfl) (by decide)⟩
    · refine AW.if_ne X (M_copy_d.d 7 rfl) (fun q7 => absurd q7 (by decide)) (fun q7 => ?_)
      exact AW.vret X (M_copy_d.d 8 rfl) (Nat.le_of_ble_eq_true rfl) (Nat.le_of_ble_eq_true rfl) ⟨rfl, mp_bad (by rw [pS_34]; unfold pcopy; rw [if_neg (by omega), if_neg (fun z => z hp), if_pos (by omega)]; rfl) (by decide)⟩
  · refine AW.if_eq X (M_copy_d.d 3 rfl) (fun q3 => ?_) (fun q3 => absurd q3 (by decide))
    exact AW.vret X (M_copy_d.d 8 rfl) (Nat.le_of_ble_eq_true rfl) (Nat.le_of_ble_eq_true rfl) ⟨rfl, mp_bad (by rw [pS_34]; unfold pcopy; exact pa1_b hc) hc⟩

