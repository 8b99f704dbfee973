/-! the reference: is the telling the one said? -/
def tp_p (f : Nat → Int32) (a : Nat) : Prop := f a ≤ f (a + 1)
def tp_i (x : Int32) (lo hi : Int) : Prop := lo ≤ x.toInt ∧ x.toInt ≤ hi
def tp_b (x : Int32) : Prop := x = 1 ∨ x = 2 ∨ x = 4 ∨ x = 8 ∨ x = 12 ∨ x = 16
def tp_P (f : Nat → Int32) (c : Nat) (many k : Nat) : Prop := c = 2 * many ∧ ∀ j, j < k → tp_p f (2 * j)
def tp_S1 (f : Nat → Int32) (c i o k : Nat) : Prop := c = 5 * i + 1 + 4 * o ∧ ∀ j, j < k → tp_p f (5 * j) ∧ tp_i (f (5 * j + 2)) 1 64
def tp_S2 (f : Nat → Int32) (c i o k : Nat) : Prop := tp_S1 f c i o i ∧ tp_b (f (5 * i)) ∧ ∀ j, j < k → tp_p f (5 * i + 1 + 4 * j)
def tp_W (f : Nat → Int32) (c o : Nat) : Prop := c = 3 + 2 * o ∧ tp_p f 0 ∧ tp_i (f 2) 0 16
/-- a choice between two things, decided -/
noncomputable def dc (P : Prop) : Bool := @decide P (Classical.propDecidable P)
theorem dc_t {P : Prop} (h : P) : dc P = true := @decide_eq_true P (Classical.propDecidable P) h
theorem dc_f {P : Prop} (h : ¬ P) : dc P = false := @decide_eq_false P (Classical.propDecidable P) h
theorem dq_t {P : Prop} : ¬ bI (dc P) = 0 ↔ P := by
  by_cases h : P
  · rw [dc_t h]; simp [h, bI]
  · rw [dc_f h]; simp [h, bI]
theorem dq_f {P : Prop} : bI (dc P) = 0 ↔ ¬ P := by
  by_cases h : P
  · rw [dc_t h]; simp [h, bI]
  · rw [dc_f h]; simp [h, bI]
theorem vd_t {P : Prop} (h : P) : some (Value.int (Int32.ofInt 1)) = some (.int (bI (dc P))) := by rw [dc_t h]; rfl
theorem vd_f {P : Prop} (h : ¬ P) : some (Value.int (Int32.ofInt 0)) = some (.int (bI (dc P))) := by rw [dc_f h]; rfl
theorem wd_t {P : Prop} (h : P) : Int32.ofInt 1 = bI (dc P) := by rw [dc_t h]; rfl
theorem wd_f {P : Prop} (h : ¬ P) : Int32.ofInt 0 = bI (dc P) := by rw [dc_f h]; rfl
theorem dc_dec {P : Prop} [Decidable P] : decide P = dc P := by
  by_cases h : P
  · rw [dc_t h, decide_eq_true h]
  · rw [dc_f h, decide_eq_false h]
theorem dc_iff {P Q : Prop} (h : P ↔ Q) : dc P = dc Q := by rw [propext h]
set_option maxHeartbeats 4000000 in
set_option maxRecDepth 100000 in
theorem M_isPair_m {l : Launch} {G : ax_G} (S : x_S) (M : x_M) (tl : List va_E) (a : Nat) (ha : a + 1 < 96) :
    AM l VV G M_isPair_y M_isPair_c 2 (some .boolean) 0 0 0 [.ref 153, .int (nI a)] (x_hM S M tl) (fun v h' => v = some (.int (bI (dc (tp_p (M.2.1 1) a)))) ∧ h' = x_hM S M tl) := by
  refine AM.of (pl := pl_M) (by decide) v_good fl_M_ok kl_M_ok nofun (Nat.le_of_ble_eq_true rfl) ?_
  intro p e s m args below meth c X
  refine AW.run X M_isPair_d 0 3 rfl ?_
  refine AW.ml1 (j := a) X rfl (show a < 96 by omega) (M_isPair_d.d 3 rfl) ?_
  refine AW.run X M_isPair_d 4 5 rfl ?_
  refine AW.ml1 (j := a + 1) X (nI_o1 a) ha (M_isPair_d.d 9 rfl) ?_
  refine AW.icmp_gt X (M_isPair_d.d 10 rfl) (fun q10 => ?_) (fun q10 => ?_)
  · refine AW.run X M_isPair_d 13 1 rfl ?_
    exact AW.zret X n_0 (M_isPair_d.d 14 rfl) (Nat.le_of_ble_eq_true rfl) (Nat.le_of_ble_eq_true rfl) ⟨vd_f (k2_nle q10), rfl⟩
  · refine AW.run X M_isPair_d 11 1 rfl ?_
    refine AW.goto X (M_isPair_d.d 12 rfl) ?_
    exact AW.zret X n_1 (M_isPair_d.d 14 rfl) (Nat.le_of_ble_eq_true rfl) (Nat.le_of_ble_eq_true rfl) ⟨vd_t (k2_le q10), rfl⟩

set_option maxHeartbeats 4000000 in
set_option maxRecDepth 100000 in
theorem M_arePairs_m {l : Launch} {G : ax_G} (S : x_S) (M : x_M) (tl : List va_E) (many n : Nat) (hm : many ≤ 8) (hc : M.1 2 = nI n) (hn : n ≤ 96) :
    AM l VV G M_arePairs_y M_arePairs_c 4 (some .boolean) 1 0 0 [.ref 153, .int (nI many)] (x_hM S M tl) (fun v h' => v = some (.int (bI (dc (tp_P (M.2.1 1) n many many)))) ∧ h' = x_hM S M tl) := by
  refine AM.of (pl := pl_M) (by decide) v_good fl_M_ok kl_M_ok nofun (Nat.le_of_ble_eq_true rfl) ?_
  intro p e s m args below meth c X
  refine AW.run X M_arePairs_d 0 5 rfl ?_
  have J15 : ∀ (z : Int32), z = bI (dc (tp_P (M.2.1 1) n many 0)) → AW p l e (ax_R 1 0 0) s m args below meth c VV G 4 (x_hM S M tl) 0 0 (MQ below (ax_Q VV G (fun v h' => v = some (.int (bI (dc (tp_P (M.2.1 1) n many many)))) ∧ h' = x_hM S M tl)) args s 0 0 (fun q => G.bs ≤ q)) 15 [(0, .ref 153), (1, .int (nI many))] [.int z] := by
    intro z hz
    subst hz
    refine AW.run X M_arePairs_d 9 3 rfl ?_
    have L18 : ∀ (t k : Nat), k ≤ many → many - k < t → AW p l e (ax_R 1 0 0) s m args below meth c VV G 4 (x_hM S M tl) 0 0 (MQ below (ax_Q VV G (fun v h' => v = some (.int (bI (dc (tp_P (M.2.1 1) n many many)))) ∧ h' = x_hM S M tl)) args s 0 0 (fun q => G.bs ≤ q)) 18 [(3, .int (nI k)), (2, .int (bI (dc (tp_P (M.2.1 1) n many k)))), (0, .ref 153), (1, .int (nI many))] [] := by
      intro t
      induction t with
      | zero => intro k h1 h2; exact absurd h2 (by omega)
      | succ t ih =>
        intro k h1 h2
        refine AW.run X M_arePairs_d 12 2 rfl ?_
        refine AW.icmp_ge X (M_arePairs_d.d 14 rfl) (fun q14 => ?_) (fun q14 => ?_)
        · refine AW.run X M_arePairs_d 25 1 rfl ?_
          exact AW.zret X (bI_nar _) (M_arePairs_d.d 26 rfl) (Nat.le_of_ble_eq_true rfl) (Nat.le_of_ble_eq_true rfl) ⟨by rw [show k = many by have := cge q14; omega], rfl⟩
        · refine AW.run X M_arePairs_d 15 1 rfl ?_
          refine AW.if_eq X (M_arePairs_d.d 16 rfl) (fun q16 => ?_) (fun q16 => ?_)
          · refine AW.run X M_arePairs_d 25 1 rfl ?_
            exact AW.zret X (by first | exact n_0 | exact n_1 | exact bI_nar _) (M_arePairs_d.d 26 rfl) (Nat.le_of_ble_eq_true rfl) (Nat.le_of_ble_eq_true rfl) ⟨by rw [dc_iff (Q := tp_P (M.2.1 1) n many many) ⟨fun z => absurd z (dq_f.mp q16), fun z => ⟨z.1, fun j hj => z.2 j (by omega)⟩⟩], rfl⟩
          · refine AW.run X M_arePairs_d 17 4 rfl ?_
            have hP := dq_t.mp q16
            have hk : k < many := clt q14
            rw [show Int32.ofInt 2 * nI k = nI (2 * k) from pk_mul 2 k]
            refine AW.callV (As := [.int (nI (2 * k))]) X (M_isPair_m S M tl (2 * k) (by have := hP.1; omega)) cb_M_125 rfl rfl M_isPair_im M_isPair_se rfl ⟨Nat.le_of_ble_eq_true rfl, Nat.le_of_ble_eq_true rfl⟩ (Nat.le_of_ble_eq_true rfl) ⟨Nat.le_of_ble_eq_true rfl, Nat.le_of_ble_eq_true rfl⟩ (M_arePairs_d.d 21 rfl) (fun v h' q => ?_)
            obtain ⟨rfl, rfl⟩ := q
            refine AW.run X M_arePairs_d 22 2 rfl ?_
            refine AW.goto X (M_arePairs_d.d 24 rfl) ?_
            rw [nI_o1, show dc (tp_p (M.2.1 1) (2 * k)) = dc (tp_P (M.2.1 1) n many (k + 1)) from dc_iff ⟨fun z => ⟨hP.1, fun j hj => by
              by_cases e1 : j = k
              · rw [e1]; exact z
              · exact hP.2 j (by omega)⟩, fun z => z.2 k (by omega)⟩]
            exact ih (k + 1) (by omega) (by omega)
    exact L18 (many + 1) 0 (by omega) (by omega)
  refine AW.icmp_ne X (M_arePairs_d.d 5 rfl) (fun q5 => ?_) (fun q5 => ?_)
  · refine AW.run X M_arePairs_d 8 1 rfl ?_
    exact J15 _ (wd_f (fun z => q5 (by rw [hc, z.1]; exact (pk_mul 2 many).symm)))
  · refine AW.run X M_arePairs_d 6 1 rfl ?_
    refine AW.goto X (M_arePairs_d.d 7 rfl) ?_
    exact J15 _ (wd_t ⟨ceq q5 hc (pk_mul 2 many) (by omega) (by omega), fun j hj => absurd hj (by omega)⟩)

theorem zL_of_i (x : Int32) : zL x.toInt := ⟨by have := (zI_i x).1; omega, by have := (zI_i x).2; omega⟩
set_option maxHeartbeats 4000000 in
set_option maxRecDepth 100000 in
theorem M_isPowers_m {l : Launch} {G : ax_G} (S : x_S) (M : x_M) (tl : List va_E) (out n : Nat) (ho : out ≤ 4) (hc : M.1 2 = nI n) (hn : n ≤ 96) :
    AM l VV G M_isPowers_y M_isPowers_c 2 (some .boolean) 1 0 0 [.ref 153, .int (nI out)] (x_hM S M tl) (fun v h' => v = some (.int (bI (dc (tp_W (M.2.1 1) n out)))) ∧ h' = x_hM S M tl) := by
  refine AM.of (pl := pl_M) (by decide) v_good fl_M_ok kl_M_ok nofun (Nat.le_of_ble_eq_true rfl) ?_
  intro p e s m args below meth c X
  refine AW.run X M_isPowers_d 0 7 rfl ?_
  refine AW.icmp_ne X (M_isPowers_d.d 7 rfl) (fun q7 => ?_) (fun q7 => ?_)
  · refine AW.run X M_isPowers_d 23 1 rfl ?_
    exact AW.zret X n_0 (M_isPowers_d.d 24 rfl) (Nat.le_of_ble_eq_true rfl) (Nat.le_of_ble_eq_true rfl) ⟨vd_f (fun z => q7 (by rw [hc, z.1, show Int32.ofInt 2 * nI out = nI (2 * out) from pk_mul 2 out]; exact (nI_add 3 (2 * out)).symm)), rfl⟩
  · have hn3 : n = 3 + 2 * out := ceq q7 hc (by rw [show Int32.ofInt 2 * nI out = nI (2 * out) from pk_mul 2 out]; exact nI_add 3 (2 * out)) (by omega) (by omega)
    refine AW.run X M_isPowers_d 8 2 rfl ?_
    refine AW.callV (As := [.int (nI 0)]) X (M_isPair_m S M tl 0 (by decide)) cb_M_125 rfl rfl M_isPair_im M_isPair_se rfl ⟨Nat.le_of_ble_eq_true rfl, Nat.le_of_ble_eq_true rfl⟩ (Nat.le_of_ble_eq_true rfl) ⟨Nat.le_of_ble_eq_true rfl, Nat.le_of_ble_eq_true rfl⟩ (M_isPowers_d.d 10 rfl) (fun v h' q => ?_)
    obtain ⟨rfl, rfl⟩ := q
    refine AW.if_eq X (M_isPowers_d.d 11 rfl) (fun q11 => ?_) (fun q11 => ?_)
    · refine AW.run X M_isPowers_d 23 1 rfl ?_
      exact AW.zret X n_0 (M_isPowers_d.d 24 rfl) (Nat.le_of_ble_eq_true rfl) (Nat.le_of_ble_eq_true rfl) ⟨vd_f (fun z => dq_f.mp q11 z.2.1), rfl⟩
    · refine AW.run X M_isPowers_d 12 3 rfl ?_
      refine AW.ml1 (j := 2) X rfl (by decide) (M_isPowers_d.d 15 rfl) ?_
      refine AW.run X M_isPowers_d 16 3 rfl ?_
      rw [i_l, show Int64.ofNat ((0 : Fin 2) : Nat) = lZ 0 from by decide, show (16 : Int64) = lZ 16 from by decide]
      refine AW.callS (As := [.long (lZ (M.2.1 1 2).toInt), .long (lZ 0), .long (lZ 16)]) X (M_isIn_m (M.2.1 1 2).toInt 0 16 (zL_of_i _) ⟨by decide, by decide⟩ ⟨by decide, by decide⟩) cb_M_92 M_isIn_st rfl ⟨Nat.le_of_ble_eq_true rfl, Nat.le_of_ble_eq_true rfl⟩ (Nat.le_of_ble_eq_true rfl) ⟨Nat.le_of_ble_eq_true rfl, Nat.le_of_ble_eq_true rfl⟩ (M_isPowers_d.d 19 rfl) (fun v h' q => ?_)
      obtain ⟨rfl, rfl⟩ := q
      rw [dc_dec]
      refine AW.if_eq X (M_isPowers_d.d 20 rfl) (fun q20 => ?_) (fun q20 => ?_)
      · refine AW.run X M_isPowers_d 23 1 rfl ?_
        exact AW.zret X n_0 (M_isPowers_d.d 24 rfl) (Nat.le_of_ble_eq_true rfl) (Nat.le_of_ble_eq_true rfl) ⟨vd_f (fun z => dq_f.mp q20 z.2.2), rfl⟩
      · refine AW.run X M_isPowers_d 21 1 rfl ?_
        refine AW.goto X (M_isPowers_d.d 22 rfl) ?_
        exact AW.zret X n_1 (M_isPowers_d.d 24 rfl) (Nat.le_of_ble_eq_true rfl) (Nat.le_of_ble_eq_true rfl) ⟨vd_t ⟨hn3, dq_t.mp q11, dq_t.mp q20⟩, rfl⟩

set_option maxHeartbeats 4000000 in
set_option maxRecDepth 100000 in
theorem M_isSamples_m {l : Launch} {G : ax_G} (S : x_S) (M : x_M) (tl : List va_E) (i o n : Nat) (hi : 1 ≤ i ∧ i ≤ 3) (ho : 1 ≤ o ∧ o ≤ 4) (hc : M.1 2 = nI n) (hn : n ≤ 96) :
    AM l VV G M_isSamples_y M_isSamples_c 6 (some .boolean) 1 0 0 [.ref 153, .int (nI i), .int (nI o)] (x_hM S M tl) (fun v h' => v = some (.int (bI (dc (tp_S2 (M.2.1 1) n i o o)))) ∧ h' = x_hM S M tl) := by
  refine AM.of (pl := pl_M) (by decide) v_good fl_M_ok kl_M_ok nofun (Nat.le_of_ble_eq_true rfl) ?_
  intro p e s m args below meth c X
  have e0 : Int32.ofInt 5 * nI i + Int32.ofInt 1 + Int32.ofInt 4 * nI o = nI (5 * i + 1 + 4 * o) := by rw [show Int32.ofInt 5 * nI i = nI (5 * i) from pk_mul 5 i, nI_o1, show Int32.ofInt 4 * nI o = nI (4 * o) from pk_mul 4 o, nI_add]
  refine AW.run X M_isSamples_d 0 11 rfl ?_
  have J21 : ∀ (z : Int32), z = bI (dc (tp_S1 (M.2.1 1) n i o 0)) → AW p l e (ax_R 1 0 0) s m args below meth c VV G 6 (x_hM S M tl) 0 0 (MQ below (ax_Q VV G (fun v h' => v = some (.int (bI (dc (tp_S2 (M.2.1 1) n i o o)))) ∧ h' = x_hM S M tl)) args s 0 0 (fun q => G.bs ≤ q)) 21 [(0, .ref 153), (1, .int (nI i)), (2, .int (nI o))] [.int z] := by
    intro z hz
    subst hz
    refine AW.run X M_isSamples_d 15 1 rfl ?_
    have J80 : ∀ (u : Unit), True → AW p l e (ax_R 1 0 0) s m args below meth c VV G 6 (x_hM S M tl) 0 0 (MQ below (ax_Q VV G (fun v h' => v = some (.int (bI (dc (tp_S2 (M.2.1 1) n i o o)))) ∧ h' = x_hM S M tl)) args s 0 0 (fun q => G.bs ≤ q)) 80 [(3, .int (bI (dc (tp_S1 (M.2.1 1) n i o i)))), (0, .ref 153), (1, .int (nI i)), (2, .int (nI o))] [] := by
      intro u hu
      refine AW.run X M_isSamples_d 48 1 rfl ?_
      have J96 : ∀ (b : Int32), (tp_S1 (M.2.1 1) n i o i → b = (M.2.1 1) (5 * i)) → AW p l e (ax_R 1 0 0) s m args below meth c VV G 6 (x_hM S M tl) 0 0 (MQ below (ax_Q VV G (fun v h' => v = some (.int (bI (dc (tp_S2 (M.2.1 1) n i o o)))) ∧ h' = x_hM S M tl)) args s 0 0 (fun q => G.bs ≤ q)) 96 [(3, .int (bI (dc (tp_S1 (M.2.1 1) n i o i)))), (0, .ref 153), (1, .int (nI i)), (2, .int (nI o))] [.int b] := by
        intro b hb
        refine AW.run X M_isSamples_d 58 2 rfl ?_
        have J146 : ∀ (z : Int32), z = bI (dc (tp_S2 (M.2.1 1) n i o 0)) → AW p l e (ax_R 1 0 0) s m args below meth c VV G 6 (x_hM S M tl) 0 0 (MQ below (ax_Q VV G (fun v h' => v = some (.int (bI (dc (tp_S2 (M.2.1 1) n i o o)))) ∧ h' = x_hM S M tl)) args s 0 0 (fun q => G.bs ≤ q)) 146 [(4, .int b), (3, .int (bI (dc (tp_S1 (M.2.1 1) n i o i)))), (0, .ref 153), (1, .int (nI i)), (2, .int (nI o))] [.int z] := by
          intro z hz
          subst hz
          refine AW.run X M_isSamples_d 82 1 rfl ?_
          have J181 : ∀ (u : Unit), True → AW p l e (ax_R 1 0 0) s m args below meth c VV G 6 (x_hM S M tl) 0 0 (MQ below (ax_Q VV G (fun v h' => v = some (.int (bI (dc (tp_S2 (M.2.1 1) n i o o)))) ∧ h' = x_hM S M tl)) args s 0 0 (fun q => G.bs ≤ q)) 181 [(3, .int (bI (dc (tp_S2 (M.2.1 1) n i o o)))), (0, .ref 153), (1, .int (nI i)), (2, .int (nI o))] [] := by
            intro u hu
            refine AW.run X M_isSamples_d 104 1 rfl ?_
            exact AW.zret X (by first | exact n_0 | exact n_1 | exact bI_nar _) (M_isSamples_d.d 105 rfl) (Nat.le_of_ble_eq_true rfl) (Nat.le_of_ble_eq_true rfl) ⟨rfl, rfl⟩
          refine AW.run X M_isSamples_d 83 2 rfl ?_
          have L150 : ∀ (t k : Nat), k ≤ o → o - k < t → AW p l e (ax_R 1 0 0) s m args below meth c VV G 6 (x_hM S M tl) 0 0 (MQ below (ax_Q VV G (fun v h' => v = some (.int (bI (dc (tp_S2 (M.2.1 1) n i o o)))) ∧ h' = x_hM S M tl)) args s 0 0 (fun q => G.bs ≤ q)) 150 [(5, .int (nI k)), (3, .int (bI (dc (tp_S2 (M.2.1 1) n i o k)))), (0, .ref 153), (1, .int (nI i)), (2, .int (nI o))] [] := by
            intro t
            induction t with
            | zero => intro k h1 h2; exact absurd h2 (by omega)
            | succ t ih =>
              intro k h1 h2
              refine AW.run X M_isSamples_d 85 2 rfl ?_
              refine AW.icmp_ge X (M_isSamples_d.d 87 rfl) (fun q87 => ?_) (fun q87 => ?_)
              · refine AW.pk [1, 2, 3, 4] rfl ?_
                have e9 : k = o := by have := cge q87; omega
                subst e9
                exact J181 () trivial
              · refine AW.run X M_isSamples_d 88 1 rfl ?_
                refine AW.if_eq X (M_isSamples_d.d 89 rfl) (fun q89 => ?_) (fun q89 => ?_)
                · refine AW.pk [1, 2, 3, 4] rfl ?_
                  rw [dc_iff (P := tp_S2 (M.2.1 1) n i o k) (Q := tp_S2 (M.2.1 1) n i o o) ⟨fun z => absurd z (dq_f.mp q89), fun z => ⟨z.1, z.2.1, fun j hj => z.2.2 j (by omega)⟩⟩]
                  exact J181 () trivial
                · refine AW.run X M_isSamples_d 90 10 rfl ?_
                  have hP := dq_t.mp q89
                  have hk : k < o := clt q87
                  rw [show Int32.ofInt 5 * nI i = nI (5 * i) from pk_mul 5 i, nI_o1, show Int32.ofInt 4 * nI k = nI (4 * k) from pk_mul 4 k, nI_add]
                  refine AW.callV (As := [.int (nI (5 * i + 1 + 4 * k))]) X (M_isPair_m S M tl (5 * i + 1 + 4 * k) (by have := hP.1.1; omega)) cb_M_125 rfl rfl M_isPair_im M_isPair_se rfl ⟨Nat.le_of_ble_eq_true rfl, Nat.le_of_ble_eq_true rfl⟩ (Nat.le_of_ble_eq_true rfl) ⟨Nat.le_of_ble_eq_true rfl, Nat.le_of_ble_eq_true rfl⟩ (M_isSamples_d.d 100 rfl) (fun v h' q => ?_)
                  obtain ⟨rfl, rfl⟩ := q
                  refine AW.run X M_isSamples_d 101 2 rfl ?_
                  refine AW.goto X (M_isSamples_d.d 103 rfl) ?_
                  rw [nI_o1, show dc (tp_p (M.2.1 1) (5 * i + 1 + 4 * k)) = dc (tp_S2 (M.2.1 1) n i o (k + 1)) from dc_iff ⟨fun z => ⟨hP.1, hP.2.1, fun j hj => by
                    by_cases e1 : j = k
                    · rw [e1]; exact z
                    · exact hP.2.2 j (by omega)⟩, fun z => z.2.2 k (by omega)⟩]
                  exact ih (k + 1) (by omega) (by omega)
          refine AW.pk [0, 1, 3, 4, 5] rfl ?_
          exact L150 (o + 1) 0 (by omega) (by omega)
        refine AW.if_eq X (M_isSamples_d.d 60 rfl) (fun q60 => ?_) (fun q60 => ?_)
        · refine AW.run X M_isSamples_d 81 1 rfl ?_
          exact J146 _ (wd_f (fun z => dq_f.mp q60 z.1))
        · refine AW.run X M_isSamples_d 61 2 rfl ?_
          refine AW.icmp_eq X (M_isSamples_d.d 63 rfl) (fun q63 => ?_) (fun q63 => ?_)
          · refine AW.run X M_isSamples_d 79 1 rfl ?_
            refine AW.goto X (M_isSamples_d.d 80 rfl) ?_
            exact J146 _ (wd_t ⟨dq_t.mp q60, hb (dq_t.mp q60) ▸ Or.inl q63, fun j hj => absurd hj (by omega)⟩)
          · refine AW.run X M_isSamples_d 64 2 rfl ?_
            refine AW.icmp_eq X (M_isSamples_d.d 66 rfl) (fun q66 => ?_) (fun q66 => ?_)
            · refine AW.run X M_isSamples_d 79 1 rfl ?_
              refine AW.goto X (M_isSamples_d.d 80 rfl) ?_
              exact J146 _ (wd_t ⟨dq_t.mp q60, hb (dq_t.mp q60) ▸ Or.inr (Or.inl q66), fun j hj => absurd hj (by omega)⟩)
            · refine AW.run X M_isSamples_d 67 2 rfl ?_
              refine AW.icmp_eq X (M_isSamples_d.d 69 rfl) (fun q69 => ?_) (fun q69 => ?_)
              · refine AW.run X M_isSamples_d 79 1 rfl ?_
                refine AW.goto X (M_isSamples_d.d 80 rfl) ?_
                exact J146 _ (wd_t ⟨dq_t.mp q60, hb (dq_t.mp q60) ▸ Or.inr (Or.inr (Or.inl q69)), fun j hj => absurd hj (by omega)⟩)
              · refine AW.run X M_isSamples_d 70 2 rfl ?_
                refine AW.icmp_eq X (M_isSamples_d.d 72 rfl) (fun q72 => ?_) (fun q72 => ?_)
                · refine AW.run X M_isSamples_d 79 1 rfl ?_
                  refine AW.goto X (M_isSamples_d.d 80 rfl) ?_
                  exact J146 _ (wd_t ⟨dq_t.mp q60, hb (dq_t.mp q60) ▸ Or.inr (Or.inr (Or.inr (Or.inl q72))), fun j hj => absurd hj (by omega)⟩)
                · refine AW.run X M_isSamples_d 73 2 rfl ?_
                  refine AW.icmp_eq X (M_isSamples_d.d 75 rfl) (fun q75 => ?_) (fun q75 => ?_)
                  · refine AW.run X M_isSamples_d 79 1 rfl ?_
                    refine AW.goto X (M_isSamples_d.d 80 rfl) ?_
                    exact J146 _ (wd_t ⟨dq_t.mp q60, hb (dq_t.mp q60) ▸ Or.inr (Or.inr (Or.inr (Or.inr (Or.inl q75)))), fun j hj => absurd hj (by omega)⟩)
                  · refine AW.run X M_isSamples_d 76 2 rfl ?_
                    refine AW.icmp_ne X (M_isSamples_d.d 78 rfl) (fun q78 => ?_) (fun q78 => ?_)
                    · refine AW.run X M_isSamples_d 81 1 rfl ?_
                      exact J146 _ (wd_f (fun z => (hb z.1 ▸ z.2.1 : tp_b b).elim q63 fun z => z.elim q66 fun z => z.elim q69 fun z => z.elim q72 fun z => z.elim q75 q78))
                    · refine AW.run X M_isSamples_d 79 1 rfl ?_
                      refine AW.goto X (M_isSamples_d.d 80 rfl) ?_
                      exact J146 _ (wd_t ⟨dq_t.mp q60, hb (dq_t.mp q60) ▸ Or.inr (Or.inr (Or.inr (Or.inr (Or.inr q78)))), fun j hj => absurd hj (by omega)⟩)
      refine AW.if_eq X (M_isSamples_d.d 49 rfl) (fun q49 => ?_) (fun q49 => ?_)
      · refine AW.run X M_isSamples_d 57 1 rfl ?_
        exact J96 _ (fun z => absurd z (dq_f.mp q49))
      · refine AW.run X M_isSamples_d 50 5 rfl ?_
        refine AW.ml1 (j := 5 * i) X (pk_mul 5 i) (by omega) (M_isSamples_d.d 55 rfl) ?_
        refine AW.goto X (M_isSamples_d.d 56 rfl) ?_
        exact J96 _ (fun z => rfl)
    refine AW.run X M_isSamples_d 16 2 rfl ?_
    have L25 : ∀ (t k : Nat), k ≤ i → i - k < t → AW p l e (ax_R 1 0 0) s m args below meth c VV G 6 (x_hM S M tl) 0 0 (MQ below (ax_Q VV G (fun v h' => v = some (.int (bI (dc (tp_S2 (M.2.1 1) n i o o)))) ∧ h' = x_hM S M tl)) args s 0 0 (fun q => G.bs ≤ q)) 25 [(4, .int (nI k)), (3, .int (bI (dc (tp_S1 (M.2.1 1) n i o k)))), (0, .ref 153), (1, .int (nI i)), (2, .int (nI o))] [] := by
      intro t
      induction t with
      | zero => intro k h1 h2; exact absurd h2 (by omega)
      | succ t ih =>
        intro k h1 h2
        refine AW.run X M_isSamples_d 18 2 rfl ?_
        refine AW.icmp_ge X (M_isSamples_d.d 20 rfl) (fun q20 => ?_) (fun q20 => ?_)
        · refine AW.pk [1, 2, 3, 4] rfl ?_
          have e9 : k = i := by have := cge q20; omega
          subst e9
          exact J80 () trivial
        · refine AW.run X M_isSamples_d 21 1 rfl ?_
          refine AW.if_eq X (M_isSamples_d.d 22 rfl) (fun q22 => ?_) (fun q22 => ?_)
          · refine AW.pk [1, 2, 3, 4] rfl ?_
            rw [dc_iff (P := tp_S1 (M.2.1 1) n i o k) (Q := tp_S1 (M.2.1 1) n i o i) ⟨fun z => absurd z (dq_f.mp q22), fun z => ⟨z.1, fun j hj => z.2 j (by omega)⟩⟩]
            exact J80 () trivial
          · refine AW.run X M_isSamples_d 23 4 rfl ?_
            have hP := dq_t.mp q22
            have hk : k < i := clt q20
            rw [show Int32.ofInt 5 * nI k = nI (5 * k) from pk_mul 5 k]
            refine AW.callV (As := [.int (nI (5 * k))]) X (M_isPair_m S M tl (5 * k) (by have := hP.1; omega)) cb_M_125 rfl rfl M_isPair_im M_isPair_se rfl ⟨Nat.le_of_ble_eq_true rfl, Nat.le_of_ble_eq_true rfl⟩ (Nat.le_of_ble_eq_true rfl) ⟨Nat.le_of_ble_eq_true rfl, Nat.le_of_ble_eq_true rfl⟩ (M_isSamples_d.d 27 rfl) (fun v h' q => ?_)
            obtain ⟨rfl, rfl⟩ := q
            have J73 : ∀ (z : Int32), z = bI (dc (tp_S1 (M.2.1 1) n i o (k + 1))) → AW p l e (ax_R 1 0 0) s m args below meth c VV G 6 (x_hM S M tl) 0 0 (MQ below (ax_Q VV G (fun v h' => v = some (.int (bI (dc (tp_S2 (M.2.1 1) n i o o)))) ∧ h' = x_hM S M tl)) args s 0 0 (fun q => G.bs ≤ q)) 73 [(4, .int (nI k)), (3, .int (bI (dc (tp_S1 (M.2.1 1) n i o k)))), (0, .ref 153), (1, .int (nI i)), (2, .int (nI o))] [.int z] := by
              intro z hz
              subst hz
              refine AW.run X M_isSamples_d 45 2 rfl ?_
              refine AW.goto X (M_isSamples_d.d 47 rfl) ?_
              rw [nI_o1]
              exact ih (k + 1) (by omega) (by omega)
            refine AW.if_eq X (M_isSamples_d.d 28 rfl) (fun q28 => ?_) (fun q28 => ?_)
            · refine AW.run X M_isSamples_d 44 1 rfl ?_
              exact J73 _ (wd_f (fun z => dq_f.mp q28 (z.2 k (by omega)).1))
            · refine AW.run X M_isSamples_d 29 7 rfl ?_
              refine AW.ml1 (j := 5 * k + 2) X (by rw [show Int32.ofInt 5 * nI k = nI (5 * k) from pk_mul 5 k]; exact nI_add (5 * k) 2) (by omega) (M_isSamples_d.d 36 rfl) ?_
              refine AW.run X M_isSamples_d 37 3 rfl ?_
              rw [i_l, show Int64.ofNat ((1 : Fin 2) : Nat) = lZ 1 from by decide, show (64 : Int64) = lZ 64 from by decide]
              refine AW.callS (As := [.long (lZ ((M.2.1 1) (5 * k + 2)).toInt), .long (lZ 1), .long (lZ 64)]) X (M_isIn_m ((M.2.1 1) (5 * k + 2)).toInt 1 64 (zL_of_i _) ⟨by decide, by decide⟩ ⟨by decide, by decide⟩) cb_M_92 M_isIn_st rfl ⟨Nat.le_of_ble_eq_true rfl, Nat.le_of_ble_eq_true rfl⟩ (Nat.le_of_ble_eq_true rfl) ⟨Nat.le_of_ble_eq_true rfl, Nat.le_of_ble_eq_true rfl⟩ (M_isSamples_d.d 40 rfl) (fun v h' q => ?_)
              obtain ⟨rfl, rfl⟩ := q
              rw [dc_dec]
              refine AW.if_eq X (M_isSamples_d.d 41 rfl) (fun q41 => ?_) (fun q41 => ?_)
              · refine AW.run X M_isSamples_d 44 1 rfl ?_
                exact J73 _ (wd_f (fun z => dq_f.mp q41 (z.2 k (by omega)).2))
              · refine AW.run X M_isSamples_d 42 1 rfl ?_
                refine AW.goto X (M_isSamples_d.d 43 rfl) ?_
                exact J73 _ (wd_t ⟨hP.1, fun j hj => by
                  by_cases e1 : j = k
                  · rw [e1]; exact ⟨dq_t.mp q28, dq_t.mp q41⟩
                  · exact hP.2 j (by omega)⟩)
    exact L25 (i + 1) 0 (by omega) (by omega)
  refine AW.icmp_ne X (M_isSamples_d.d 11 rfl) (fun q11 => ?_) (fun q11 => ?_)
  · refine AW.run X M_isSamples_d 14 1 rfl ?_
    exact J21 _ (wd_f (fun z => q11 (by rw [hc, z.1, e0])))
  · refine AW.run X M_isSamples_d 12 1 rfl ?_
    refine AW.goto X (M_isSamples_d.d 13 rfl) ?_
    exact J21 _ (wd_t ⟨ceq q11 hc e0 (by omega) (by omega), fun j hj => absurd hj (by omega)⟩)

def tp_Z1 (f : Nat → Int32) (c : Nat) : Prop := 3 ≤ c ∧ tp_p f 0 ∧ tp_i (f 2) 1 8
def tp_f (tk gv : Nat → Int32) (m : Nat) (out : Int32) (x : Int32) : Prop := tp_i x 0 ((m : Int) - 1) ∧ tk x.toNatClampNeg = 1 ∧ gv x.toNatClampNeg = out
def tp_Z3 (f tk gv : Nat → Int32) (c m : Nat) (out : Int32) (K k : Nat) : Prop := tp_Z1 f c ∧ c = 4 * K + 2 ∧ ∀ j, j < k → tp_f tk gv m out (f (3 + j))
def tp_Z4 (f tk gv : Nat → Int32) (c m : Nat) (out : Int32) (K k : Nat) : Prop := tp_Z3 f tk gv c m out K K ∧ ∀ j, j < k → (if j = 0 then f 0 else f (2 + K + j)) < f (3 + K + j) ∧ f (3 + K + j) < f 1
/-- how many parts are told -/
def tp_K (f : Nat → Int32) (c K : Nat) : Prop := (tp_Z1 f c → f 2 = nI K ∧ 1 ≤ K ∧ K ≤ 8) ∧ (¬ tp_Z1 f c → K = 0)
theorem i_nat {x : Int32} {n : Nat} (h : x.toInt = n) : x = nI n := by
  rw [iZ_of x, h, iZ_n]
theorem tp_K_ex (f : Nat → Int32) (c : Nat) : ∃ K, tp_K f c K := by
  by_cases h : tp_Z1 f c
  · have h1 := h.2.2.1
    have h2 := h.2.2.2
    exact ⟨(f 2).toInt.toNat, fun _ => ⟨i_nat (by omega), by omega, by omega⟩, fun q => absurd h q⟩
  · exact ⟨0, fun q => absurd q h, fun _ => rfl⟩
theorem tp_f_ix {tk gv : Nat → Int32} {m : Nat} {x : Int32} (h : tp_i x 0 ((m : Int) - 1)) : ∃ n, n < m ∧ x = nI n := by
  have h1 := h.1
  have h2 := h.2
  exact ⟨x.toInt.toNat, by omega, i_nat (by omega)⟩
set_option maxHeartbeats 4000000 in
set_option maxRecDepth 100000 in
theorem M_isStitched_m {l : Launch} {G : ax_G} (S : x_S) (M : x_M) (tl : List va_E) (out n m0 : Nat) (ho : out ≤ 4) (hc : M.1 2 = nI n) (hn : n ≤ 96) (hm : M.1 5 = nI m0) (hm0 : m0 ≤ 24) :
    AM l VV G M_isStitched_y M_isStitched_c 6 (some .boolean) 1 0 0 [.ref 153, .int (nI out)] (x_hM S M tl) (fun v h' => ∃ K, tp_K (M.2.1 1) n K ∧ v = some (.int (bI (dc (tp_Z4 (M.2.1 1) (M.2.1 5) (M.2.1 6) n m0 (nI out) K (K - 1))))) ∧ h' = x_hM S M tl) := by
  refine AM.of (pl := pl_M) (by decide) v_good fl_M_ok kl_M_ok nofun (Nat.le_of_ble_eq_true rfl) ?_
  intro p e s m args below meth c X
  obtain ⟨K, hK⟩ := tp_K_ex (M.2.1 1) n
  have hK8 : K ≤ 8 := by
    by_cases z : tp_Z1 (M.2.1 1) n
    · exact (hK.1 z).2.2
    · rw [hK.2 z]; decide
  refine AW.run X M_isStitched_d 0 3 rfl ?_
  have J38 : ∀ (z : Int32), z = bI (dc (tp_Z1 (M.2.1 1) n)) → AW p l e (ax_R 1 0 0) s m args below meth c VV G 6 (x_hM S M tl) 0 0 (MQ below (ax_Q VV G (fun v h' => ∃ K, tp_K (M.2.1 1) n K ∧ v = some (.int (bI (dc (tp_Z4 (M.2.1 1) (M.2.1 5) (M.2.1 6) n m0 (nI out) K (K - 1))))) ∧ h' = x_hM S M tl)) args s 0 0 (fun q => G.bs ≤ q)) 38 [(0, .ref 153), (1, .int (nI out))] [.int z] := by
    intro z hz
    subst hz
    refine AW.run X M_isStitched_d 20 2 rfl ?_
    have J53 : ∀ (z : Int32), z = nI K → AW p l e (ax_R 1 0 0) s m args below meth c VV G 6 (x_hM S M tl) 0 0 (MQ below (ax_Q VV G (fun v h' => ∃ K, tp_K (M.2.1 1) n K ∧ v = some (.int (bI (dc (tp_Z4 (M.2.1 1) (M.2.1 5) (M.2.1 6) n m0 (nI out) K (K - 1))))) ∧ h' = x_hM S M tl)) args s 0 0 (fun q => G.bs ≤ q)) 53 [(2, .int (bI (dc (tp_Z1 (M.2.1 1) n)))), (0, .ref 153), (1, .int (nI out))] [.int z] := by
      intro z hz
      subst hz
      refine AW.run X M_isStitched_d 29 2 rfl ?_
      have J75 : ∀ (z : Int32), z = bI (dc (tp_Z3 (M.2.1 1) (M.2.1 5) (M.2.1 6) n m0 (nI out) K 0)) → AW p l e (ax_R 1 0 0) s m args below meth c VV G 6 (x_hM S M tl) 0 0 (MQ below (ax_Q VV G (fun v h' => ∃ K, tp_K (M.2.1 1) n K ∧ v = some (.int (bI (dc (tp_Z4 (M.2.1 1) (M.2.1 5) (M.2.1 6) n m0 (nI out) K (K - 1))))) ∧ h' = x_hM S M tl)) args s 0 0 (fun q => G.bs ≤ q)) 75 [(3, .int (nI K)), (2, .int (bI (dc (tp_Z1 (M.2.1 1) n)))), (0, .ref 153), (1, .int (nI out))] [.int z] := by
        intro z hz
        subst hz
        refine AW.run X M_isStitched_d 43 1 rfl ?_
        have J151 : ∀ (u : Unit), True → AW p l e (ax_R 1 0 0) s m args below meth c VV G 6 (x_hM S M tl) 0 0 (MQ below (ax_Q VV G (fun v h' => ∃ K, tp_K (M.2.1 1) n K ∧ v = some (.int (bI (dc (tp_Z4 (M.2.1 1) (M.2.1 5) (M.2.1 6) n m0 (nI out) K (K - 1))))) ∧ h' = x_hM S M tl)) args s 0 0 (fun q => G.bs ≤ q)) 151 [(2, .int (bI (dc (tp_Z3 (M.2.1 1) (M.2.1 5) (M.2.1 6) n m0 (nI out) K K)))), (3, .int (nI K)), (0, .ref 153), (1, .int (nI out))] [] := by
          intro u hu
          have J232 : ∀ (u : Unit), True → AW p l e (ax_R 1 0 0) s m args below meth c VV G 6 (x_hM S M tl) 0 0 (MQ below (ax_Q VV G (fun v h' => ∃ K, tp_K (M.2.1 1) n K ∧ v = some (.int (bI (dc (tp_Z4 (M.2.1 1) (M.2.1 5) (M.2.1 6) n m0 (nI out) K (K - 1))))) ∧ h' = x_hM S M tl)) args s 0 0 (fun q => G.bs ≤ q)) 232 [(2, .int (bI (dc (tp_Z4 (M.2.1 1) (M.2.1 5) (M.2.1 6) n m0 (nI out) K (K - 1))))), (3, .int (nI K)), (0, .ref 153), (1, .int (nI out))] [] := by
            intro u hu
            refine AW.run X M_isStitched_d 133 1 rfl ?_
            exact AW.zret X (by first | exact n_0 | exact n_1 | exact bI_nar _) (M_isStitched_d.d 134 rfl) (Nat.le_of_ble_eq_true rfl) (Nat.le_of_ble_eq_true rfl) ⟨K, hK, rfl, rfl⟩
          refine AW.run X M_isStitched_d 86 2 rfl ?_
          have L154 : ∀ (t k : Nat), k ≤ K - 1 → K - 1 - k < t → AW p l e (ax_R 1 0 0) s m args below meth c VV G 6 (x_hM S M tl) 0 0 (MQ below (ax_Q VV G (fun v h' => ∃ K, tp_K (M.2.1 1) n K ∧ v = some (.int (bI (dc (tp_Z4 (M.2.1 1) (M.2.1 5) (M.2.1 6) n m0 (nI out) K (K - 1))))) ∧ h' = x_hM S M tl)) args s 0 0 (fun q => G.bs ≤ q)) 154 [(4, .int (nI k)), (2, .int (bI (dc (tp_Z4 (M.2.1 1) (M.2.1 5) (M.2.1 6) n m0 (nI out) K k)))), (3, .int (nI K)), (0, .ref 153), (1, .int (nI out))] [] := by
            intro t
            induction t with
            | zero => intro k h1 h2; exact absurd h2 (by omega)
            | succ t ih =>
              intro k h1 h2
              refine AW.run X M_isStitched_d 88 4 rfl ?_
              refine AW.icmp_ge X (M_isStitched_d.d 92 rfl) (fun q92 => ?_) (fun q92 => ?_)
              · refine AW.pk [1, 2, 3, 4] rfl ?_
                have e9 : k = K - 1 := by
                  rcases Nat.eq_zero_or_pos K with z | z
                  · omega
                  · have := cge q92 rfl (pk_sub (b := 1) z) (by omega) (by omega)
                    omega
                subst e9
                exact J232 () trivial
              · refine AW.run X M_isStitched_d 93 1 rfl ?_
                refine AW.if_eq X (M_isStitched_d.d 94 rfl) (fun q94 => ?_) (fun q94 => ?_)
                · refine AW.pk [1, 2, 3, 4] rfl ?_
                  rw [dc_iff (P := tp_Z4 (M.2.1 1) (M.2.1 5) (M.2.1 6) n m0 (nI out) K k) (Q := tp_Z4 (M.2.1 1) (M.2.1 5) (M.2.1 6) n m0 (nI out) K (K - 1)) ⟨fun z => absurd z (dq_f.mp q94), fun z => ⟨z.1, fun j hj => z.2 j (by omega)⟩⟩]
                  exact J232 () trivial
                · have hP := dq_t.mp q94
                  have hk : k < K - 1 := by
                    rcases Nat.eq_zero_or_pos K with z | z
                    · exact absurd (show nI K - Int32.ofInt 1 ≤ nI k by rw [z]; exact Int32.le_trans (by decide) (nI_pos' (n := k) (by omega))) q92
                    · exact clt q92 rfl (pk_sub (b := 1) z) (by omega) (by omega)
                  have hK1 := hK.1 hP.1.1
                  have hnK := hP.1.2.1
                  refine AW.run X M_isStitched_d 95 7 rfl ?_
                  refine AW.ml1 (j := 3 + K + k) X (by rw [show Int32.ofInt 3 + nI K = nI (3 + K) from nI_add 3 K, nI_add]) (by omega) (M_isStitched_d.d 102 rfl) ?_
                  refine AW.run X M_isStitched_d 103 3 rfl ?_
                  have J206 : ∀ (z : Int32), z = (if k = 0 then M.2.1 1 0 else M.2.1 1 (2 + K + k)) → AW p l e (ax_R 1 0 0) s m args below meth c VV G 6 (x_hM S M tl) 0 0 (MQ below (ax_Q VV G (fun v h' => ∃ K, tp_K (M.2.1 1) n K ∧ v = some (.int (bI (dc (tp_Z4 (M.2.1 1) (M.2.1 5) (M.2.1 6) n m0 (nI out) K (K - 1))))) ∧ h' = x_hM S M tl)) args s 0 0 (fun q => G.bs ≤ q)) 206 [(5, .int (M.2.1 1 (3 + K + k))), (4, .int (nI k)), (2, .int (bI (dc (tp_Z4 (M.2.1 1) (M.2.1 5) (M.2.1 6) n m0 (nI out) K k)))), (3, .int (nI K)), (0, .ref 153), (1, .int (nI out))] [.int z, .int (M.2.1 1 (3 + K + k))] := by
                    intro z hz
                    have J225 : ∀ (y : Int32), y = bI (dc (tp_Z4 (M.2.1 1) (M.2.1 5) (M.2.1 6) n m0 (nI out) K (k + 1))) → AW p l e (ax_R 1 0 0) s m args below meth c VV G 6 (x_hM S M tl) 0 0 (MQ below (ax_Q VV G (fun v h' => ∃ K, tp_K (M.2.1 1) n K ∧ v = some (.int (bI (dc (tp_Z4 (M.2.1 1) (M.2.1 5) (M.2.1 6) n m0 (nI out) K (K - 1))))) ∧ h' = x_hM S M tl)) args s 0 0 (fun q => G.bs ≤ q)) 225 [(5, .int (M.2.1 1 (3 + K + k))), (4, .int (nI k)), (2, .int (bI (dc (tp_Z4 (M.2.1 1) (M.2.1 5) (M.2.1 6) n m0 (nI out) K k)))), (3, .int (nI K)), (0, .ref 153), (1, .int (nI out))] [.int y] := by
                      intro y hy
                      subst hy
                      refine AW.run X M_isStitched_d 130 2 rfl ?_
                      refine AW.goto X (M_isStitched_d.d 132 rfl) ?_
                      refine AW.pk [0, 1, 3, 4, 5] rfl ?_
                      rw [nI_o1]
                      exact ih (k + 1) (by omega) (by omega)
                    refine AW.icmp_le X (M_isStitched_d.d 120 rfl) (fun q120 => ?_) (fun q120 => ?_)
                    · refine AW.run X M_isStitched_d 129 1 rfl ?_
                      exact J225 _ (wd_f (fun w => k2_nle (by rw [hz]; exact (w.2 k (by omega)).1) q120))
                    · refine AW.run X M_isStitched_d 121 4 rfl ?_
                      refine AW.ml1 (j := 1) X rfl (by decide) (M_isStitched_d.d 125 rfl) ?_
                      refine AW.icmp_ge X (M_isStitched_d.d 126 rfl) (fun q126 => ?_) (fun q126 => ?_)
                      · refine AW.run X M_isStitched_d 129 1 rfl ?_
                        exact J225 _ (wd_f (fun w => k2_nle (w.2 k (by omega)).2 q126))
                      · refine AW.run X M_isStitched_d 127 1 rfl ?_
                        refine AW.goto X (M_isStitched_d.d 128 rfl) ?_
                        exact J225 _ (wd_t ⟨hP.1, fun j hj => by
                          by_cases e1 : j = k
                          · rw [e1]; exact ⟨by rw [← hz]; exact k2_lt q120, k2_lt q126⟩
                          · exact hP.2 j (by omega)⟩)
                  refine AW.if_ne X (M_isStitched_d.d 106 rfl) (fun q106 => ?_) (fun q106 => ?_)
                  · refine AW.run X M_isStitched_d 112 7 rfl ?_
                    refine AW.ml1 (j := 2 + K + k) X (by rw [show Int32.ofInt 2 + nI K = nI (2 + K) from nI_add 2 K, nI_add]) (by omega) (M_isStitched_d.d 119 rfl) ?_
                    exact J206 _ (by rw [if_neg (fun z => q106 (by rw [z]; rfl))])
                  · refine AW.run X M_isStitched_d 107 3 rfl ?_
                    refine AW.ml1 (j := 0) X rfl (by decide) (M_isStitched_d.d 110 rfl) ?_
                    refine AW.goto X (M_isStitched_d.d 111 rfl) ?_
                    exact J206 _ (by rw [if_pos (ceq q106 rfl (show (0 : Int32) = nI 0 from rfl) (by omega) (by decide))])
          rw [dc_iff (P := tp_Z3 (M.2.1 1) (M.2.1 5) (M.2.1 6) n m0 (nI out) K K) (Q := tp_Z4 (M.2.1 1) (M.2.1 5) (M.2.1 6) n m0 (nI out) K 0) ⟨fun z => ⟨z, fun j hj => absurd hj (by omega)⟩, fun z => z.1⟩]
          exact L154 (K + 1) 0 (by omega) (by omega)
        refine AW.run X M_isStitched_d 44 2 rfl ?_
        have L79 : ∀ (t k : Nat), k ≤ K → K - k < t → AW p l e (ax_R 1 0 0) s m args below meth c VV G 6 (x_hM S M tl) 0 0 (MQ below (ax_Q VV G (fun v h' => ∃ K, tp_K (M.2.1 1) n K ∧ v = some (.int (bI (dc (tp_Z4 (M.2.1 1) (M.2.1 5) (M.2.1 6) n m0 (nI out) K (K - 1))))) ∧ h' = x_hM S M tl)) args s 0 0 (fun q => G.bs ≤ q)) 79 [(4, .int (nI k)), (2, .int (bI (dc (tp_Z3 (M.2.1 1) (M.2.1 5) (M.2.1 6) n m0 (nI out) K k)))), (3, .int (nI K)), (0, .ref 153), (1, .int (nI out))] [] := by
          intro t
          induction t with
          | zero => intro k h1 h2; exact absurd h2 (by omega)
          | succ t ih =>
            intro k h1 h2
            refine AW.run X M_isStitched_d 46 2 rfl ?_
            refine AW.icmp_ge X (M_isStitched_d.d 48 rfl) (fun q48 => ?_) (fun q48 => ?_)
            · refine AW.pk [1, 2, 3, 4] rfl ?_
              have e9 : k = K := by have := cge q48; omega
              subst e9
              exact J151 () trivial
            · refine AW.run X M_isStitched_d 49 1 rfl ?_
              refine AW.if_eq X (M_isStitched_d.d 50 rfl) (fun q50 => ?_) (fun q50 => ?_)
              · refine AW.pk [1, 2, 3, 4] rfl ?_
                rw [dc_iff (P := tp_Z3 (M.2.1 1) (M.2.1 5) (M.2.1 6) n m0 (nI out) K k) (Q := tp_Z3 (M.2.1 1) (M.2.1 5) (M.2.1 6) n m0 (nI out) K K) ⟨fun z => absurd z (dq_f.mp q50), fun z => ⟨z.1, z.2.1, fun j hj => z.2.2 j (by omega)⟩⟩]
                exact J151 () trivial
              · have hP := dq_t.mp q50
                have hk : k < K := clt q48
                have hK1 := hK.1 hP.1
                have hnK := hP.2.1
                refine AW.run X M_isStitched_d 51 5 rfl ?_
                refine AW.ml1 (j := 3 + k) X (nI_add 3 k) (by omega) (M_isStitched_d.d 56 rfl) ?_
                refine AW.run X M_isStitched_d 57 9 rfl ?_
                rw [i_l, i_l, hm, show (nI m0 - Int32.ofInt 1).toInt = (m0 : Int) - 1 from by rw [iZ_n, show Int32.ofInt 1 = iZ 1 from rfl, iZ_sub]; exact iZ_t ⟨by omega, by omega⟩, show Int64.ofNat ((0 : Fin 2) : Nat) = lZ 0 from by decide]
                refine AW.callS (As := [.long (lZ ((M.2.1 1) (3 + k)).toInt), .long (lZ 0), .long (lZ ((m0 : Int) - 1))]) X (M_isIn_m ((M.2.1 1) (3 + k)).toInt 0 ((m0 : Int) - 1) (zL_of_i _) ⟨by decide, by decide⟩ ⟨by omega, by omega⟩) cb_M_92 M_isIn_st rfl ⟨Nat.le_of_ble_eq_true rfl, Nat.le_of_ble_eq_true rfl⟩ (Nat.le_of_ble_eq_true rfl) ⟨Nat.le_of_ble_eq_true rfl, Nat.le_of_ble_eq_true rfl⟩ (M_isStitched_d.d 66 rfl) (fun v h' q => ?_)
                obtain ⟨rfl, rfl⟩ := q
                rw [dc_dec]
                have J144 : ∀ (z : Int32), z = bI (dc (tp_Z3 (M.2.1 1) (M.2.1 5) (M.2.1 6) n m0 (nI out) K (k + 1))) → AW p l e (ax_R 1 0 0) s m args below meth c VV G 6 (x_hM S M tl) 0 0 (MQ below (ax_Q VV G (fun v h' => ∃ K, tp_K (M.2.1 1) n K ∧ v = some (.int (bI (dc (tp_Z4 (M.2.1 1) (M.2.1 5) (M.2.1 6) n m0 (nI out) K (K - 1))))) ∧ h' = x_hM S M tl)) args s 0 0 (fun q => G.bs ≤ q)) 144 [(5, .int (M.2.1 1 (3 + k))), (4, .int (nI k)), (2, .int (bI (dc (tp_Z3 (M.2.1 1) (M.2.1 5) (M.2.1 6) n m0 (nI out) K k)))), (3, .int (nI K)), (0, .ref 153), (1, .int (nI out))] [.int z] := by
                  intro z hz
                  subst hz
                  refine AW.run X M_isStitched_d 83 2 rfl ?_
                  refine AW.goto X (M_isStitched_d.d 85 rfl) ?_
                  refine AW.pk [0, 1, 3, 4, 5] rfl ?_
                  rw [nI_o1]
                  exact ih (k + 1) (by omega) (by omega)
                refine AW.if_eq X (M_isStitched_d.d 67 rfl) (fun q67 => ?_) (fun q67 => ?_)
                · refine AW.run X M_isStitched_d 82 1 rfl ?_
                  exact J144 _ (wd_f (fun w => dq_f.mp q67 (w.2.2 k (by omega)).1))
                · obtain ⟨jx, hj1, hj2⟩ := tp_f_ix (tk := M.2.1 5) (gv := M.2.1 6) (dq_t.mp q67)
                  refine AW.run X M_isStitched_d 68 3 rfl ?_
                  refine AW.ml5 (j := jx) X hj2 (by omega) (M_isStitched_d.d 71 rfl) ?_
                  refine AW.run X M_isStitched_d 72 1 rfl ?_
                  refine AW.icmp_ne X (M_isStitched_d.d 73 rfl) (fun q73 => ?_) (fun q73 => ?_)
                  · refine AW.run X M_isStitched_d 82 1 rfl ?_
                    exact J144 _ (wd_f (fun w => q73 (by have z := (w.2.2 k (by omega)).2.1; rw [hj2, nI_clamp (by omega)] at z; exact z)))
                  · refine AW.run X M_isStitched_d 74 3 rfl ?_
                    refine AW.ml6 (j := jx) X hj2 (by omega) (M_isStitched_d.d 77 rfl) ?_
                    refine AW.run X M_isStitched_d 78 1 rfl ?_
                    refine AW.icmp_ne X (M_isStitched_d.d 79 rfl) (fun q79 => ?_) (fun q79 => ?_)
                    · refine AW.run X M_isStitched_d 82 1 rfl ?_
                      exact J144 _ (wd_f (fun w => q79 (by have z := (w.2.2 k (by omega)).2.2; rw [hj2, nI_clamp (by omega)] at z; exact z)))
                    · refine AW.run X M_isStitched_d 80 1 rfl ?_
                      refine AW.goto X (M_isStitched_d.d 81 rfl) ?_
                      exact J144 _ (wd_t ⟨hP.1, hP.2.1, fun j hj => by
                        by_cases e1 : j = k
                        · rw [e1]; exact ⟨dq_t.mp q67, by rw [hj2, nI_clamp (by omega)]; exact q73, by rw [hj2, nI_clamp (by omega)]; exact q79⟩
                        · exact hP.2.2 j (by omega)⟩)
        exact L79 (K + 1) 0 (by omega) (by omega)
      refine AW.if_eq X (M_isStitched_d.d 31 rfl) (fun q31 => ?_) (fun q31 => ?_)
      · refine AW.run X M_isStitched_d 42 1 rfl ?_
        exact J75 _ (wd_f (fun w => dq_f.mp q31 w.1))
      · have hZ1 := dq_t.mp q31
        refine AW.run X M_isStitched_d 32 7 rfl ?_
        refine AW.icmp_ne X (M_isStitched_d.d 39 rfl) (fun q39 => ?_) (fun q39 => ?_)
        · refine AW.run X M_isStitched_d 42 1 rfl ?_
          exact J75 _ (wd_f (fun w => q39 (by rw [hc, w.2.1, show Int32.ofInt 4 * nI K = nI (4 * K) from pk_mul 4 K]; exact (nI_add (4 * K) 2).symm)))
        · refine AW.run X M_isStitched_d 40 1 rfl ?_
          refine AW.goto X (M_isStitched_d.d 41 rfl) ?_
          exact J75 _ (wd_t ⟨hZ1, ceq q39 hc (by rw [show Int32.ofInt 4 * nI K = nI (4 * K) from pk_mul 4 K]; exact nI_add (4 * K) 2) (by omega) (by omega), fun j hj => absurd hj (by omega)⟩)
    refine AW.if_eq X (M_isStitched_d.d 22 rfl) (fun q22 => ?_) (fun q22 => ?_)
    · refine AW.run X M_isStitched_d 28 1 rfl ?_
      exact J53 _ (by rw [hK.2 (dq_f.mp q22)]; rfl)
    · have hZ1 := dq_t.mp q22
      refine AW.run X M_isStitched_d 23 3 rfl ?_
      refine AW.ml1 (j := 2) X rfl (by decide) (M_isStitched_d.d 26 rfl) ?_
      refine AW.goto X (M_isStitched_d.d 27 rfl) ?_
      exact J53 _ (hK.1 hZ1).1
  refine AW.icmp_lt X (M_isStitched_d.d 3 rfl) (fun q3 => ?_) (fun q3 => ?_)
  · refine AW.run X M_isStitched_d 19 1 rfl ?_
    exact J38 _ (wd_f (fun w => by have := cgt (a := 3) (b := n) q3 (by rfl) hc (by omega) (by omega); have := w.1; omega))
  · refine AW.run X M_isStitched_d 4 2 rfl ?_
    have hn3 : 3 ≤ n := cle (a := 3) (b := n) q3 (by rfl) hc (by omega) (by omega)
    refine AW.callV (As := [.int (nI 0)]) X (M_isPair_m S M tl 0 (by decide)) cb_M_125 rfl rfl M_isPair_im M_isPair_se rfl ⟨Nat.le_of_ble_eq_true rfl, Nat.le_of_ble_eq_true rfl⟩ (Nat.le_of_ble_eq_true rfl) ⟨Nat.le_of_ble_eq_true rfl, Nat.le_of_ble_eq_true rfl⟩ (M_isStitched_d.d 6 rfl) (fun v h' q => ?_)
    obtain ⟨rfl, rfl⟩ := q
    refine AW.if_eq X (M_isStitched_d.d 7 rfl) (fun q7 => ?_) (fun q7 => ?_)
    · refine AW.run X M_isStitched_d 19 1 rfl ?_
      exact J38 _ (wd_f (fun w => dq_f.mp q7 w.2.1))
    · refine AW.run X M_isStitched_d 8 3 rfl ?_
      refine AW.ml1 (j := 2) X rfl (by decide) (M_isStitched_d.d 11 rfl) ?_
      refine AW.run X M_isStitched_d 12 3 rfl ?_
      rw [i_l, show Int64.ofNat ((1 : Fin 2) : Nat) = lZ 1 from by decide, show (8 : Int64) = lZ 8 from by decide]
      refine AW.callS (As := [.long (lZ (M.2.1 1 2).toInt), .long (lZ 1), .long (lZ 8)]) X (M_isIn_m (M.2.1 1 2).toInt 1 8 (zL_of_i _) ⟨by decide, by decide⟩ ⟨by decide, by decide⟩) cb_M_92 M_isIn_st rfl ⟨Nat.le_of_ble_eq_true rfl, Nat.le_of_ble_eq_true rfl⟩ (Nat.le_of_ble_eq_true rfl) ⟨Nat.le_of_ble_eq_true rfl, Nat.le_of_ble_eq_true rfl⟩ (M_isStitched_d.d 15 rfl) (fun v h' q => ?_)
      obtain ⟨rfl, rfl⟩ := q
      rw [dc_dec]
      refine AW.if_eq X (M_isStitched_d.d 16 rfl) (fun q16 => ?_) (fun q16 => ?_)
      · refine AW.run X M_isStitched_d 19 1 rfl ?_
        exact J38 _ (wd_f (fun w => dq_f.mp q16 w.2.2))
      · refine AW.run X M_isStitched_d 17 1 rfl ?_
        refine AW.goto X (M_isStitched_d.d 18 rfl) ?_
        exact J38 _ (wd_t ⟨hn3, dq_t.mp q7, dq_t.mp q16⟩)

set_option maxHeartbeats 4000000 in
set_option maxRecDepth 100000 in
theorem M_isTold0_m {l : Launch} {G : ax_G} (S : x_S) (M : x_M) (tl : List va_E) (i o n : Nat) (hi : 1 ≤ i ∧ i ≤ 3) (ho : 1 ≤ o ∧ o ≤ 4) (hc : M.1 2 = nI n) (hn : n ≤ 96) :
    AM l VV G M_isTold_y M_isTold_c 4 (some .boolean) 2 0 0 [.ref 153, .int (nI 0), .int (nI i), .int (nI o)] (x_hM S M tl) (fun v h' => v = some (.int (bI (dc (tp_S2 (M.2.1 1) n i o o)))) ∧ h' = x_hM S M tl) := by
  refine AM.of (pl := pl_M) (by decide) v_good fl_M_ok kl_M_ok nofun (Nat.le_of_ble_eq_true rfl) ?_
  intro p e s m args below meth c X
  refine AW.run X M_isTold_d 0 1 rfl ?_
  refine AW.tableIn X (M_isTold_d.d 1 rfl) (by decide) (by decide) (off := 31) (by decide) ?_
  refine AW.run X M_isTold_d 2 3 rfl ?_
  refine AW.callV (As := [.int (nI i), .int (nI o)]) X (M_isSamples_m S M tl i o n hi ho hc hn) cb_M_134 rfl rfl M_isSamples_im M_isSamples_se rfl ⟨Nat.le_of_ble_eq_true rfl, Nat.le_of_ble_eq_true rfl⟩ (Nat.le_of_ble_eq_true rfl) ⟨Nat.le_of_ble_eq_true rfl, Nat.le_of_ble_eq_true rfl⟩ (M_isTold_d.d 5 rfl) (fun v h' q => ?_)
  obtain ⟨rfl, rfl⟩ := q
  exact AW.zret X (by first | exact n_0 | exact n_1 | exact bI_nar _) (M_isTold_d.d 6 rfl) (Nat.le_of_ble_eq_true rfl) (Nat.le_of_ble_eq_true rfl) ⟨rfl, rfl⟩

set_option maxHeartbeats 4000000 in
set_option maxRecDepth 100000 in
theorem M_isTold2_m {l : Launch} {G : ax_G} (S : x_S) (M : x_M) (tl : List va_E) (i o n : Nat) (ho : o ≤ 4) (hc : M.1 2 = nI n) (hn : n ≤ 96) :
    AM l VV G M_isTold_y M_isTold_c 4 (some .boolean) 2 0 0 [.ref 153, .int (nI 2), .int (nI i), .int (nI o)] (x_hM S M tl) (fun v h' => v = some (.int (bI (dc (tp_W (M.2.1 1) n o)))) ∧ h' = x_hM S M tl) := by
  refine AM.of (pl := pl_M) (by decide) v_good fl_M_ok kl_M_ok nofun (Nat.le_of_ble_eq_true rfl) ?_
  intro p e s m args below meth c X
  refine AW.run X M_isTold_d 0 1 rfl ?_
  refine AW.tableIn X (M_isTold_d.d 1 rfl) (by decide) (by decide) (off := 38) (by decide) ?_
  refine AW.run X M_isTold_d 7 2 rfl ?_
  refine AW.callV (As := [.int (nI o)]) X (M_isPowers_m S M tl o n ho hc hn) cb_M_138 rfl rfl M_isPowers_im M_isPowers_se rfl ⟨Nat.le_of_ble_eq_true rfl, Nat.le_of_ble_eq_true rfl⟩ (Nat.le_of_ble_eq_true rfl) ⟨Nat.le_of_ble_eq_true rfl, Nat.le_of_ble_eq_true rfl⟩ (M_isTold_d.d 9 rfl) (fun v h' q => ?_)
  obtain ⟨rfl, rfl⟩ := q
  exact AW.zret X (by first | exact n_0 | exact n_1 | exact bI_nar _) (M_isTold_d.d 10 rfl) (Nat.le_of_ble_eq_true rfl) (Nat.le_of_ble_eq_true rfl) ⟨rfl, rfl⟩

set_option maxHeartbeats 4000000 in
set_option maxRecDepth 100000 in
theorem M_isTold3_m {l : Launch} {G : ax_G} (S : x_S) (M : x_M) (tl : List va_E) (i o n m0 : Nat) (ho : o ≤ 4) (hc : M.1 2 = nI n) (hn : n ≤ 96) (hm : M.1 5 = nI m0) (hm0 : m0 ≤ 24) :
    AM l VV G M_isTold_y M_isTold_c 4 (some .boolean) 2 0 0 [.ref 153, .int (nI 3), .int (nI i), .int (nI o)] (x_hM S M tl) (fun v h' => ∃ K, tp_K (M.2.1 1) n K ∧ v = some (.int (bI (dc (tp_Z4 (M.2.1 1) (M.2.1 5) (M.2.1 6) n m0 (nI o) K (K - 1))))) ∧ h' = x_hM S M tl) := by
  refine AM.of (pl := pl_M) (by decide) v_good fl_M_ok kl_M_ok nofun (Nat.le_of_ble_eq_true rfl) ?_
  intro p e s m args below meth c X
  refine AW.run X M_isTold_d 0 1 rfl ?_
  refine AW.tableIn X (M_isTold_d.d 1 rfl) (by decide) (by decide) (off := 44) (by decide) ?_
  refine AW.run X M_isTold_d 11 2 rfl ?_
  refine AW.callV (As := [.int (nI o)]) X (M_isStitched_m S M tl o n m0 ho hc hn hm hm0) cb_M_141 rfl rfl M_isStitched_im M_isStitched_se rfl ⟨Nat.le_of_ble_eq_true rfl, Nat.le_of_ble_eq_true rfl⟩ (Nat.le_of_ble_eq_true rfl) ⟨Nat.le_of_ble_eq_true rfl, Nat.le_of_ble_eq_true rfl⟩ (M_isTold_d.d 13 rfl) (fun v h' q => ?_)
  obtain ⟨K, hK, rfl, rfl⟩ := q
  exact AW.zret X (by first | exact n_0 | exact n_1 | exact bI_nar _) (M_isTold_d.d 14 rfl) (Nat.le_of_ble_eq_true rfl) (Nat.le_of_ble_eq_true rfl) ⟨K, hK, rfl, rfl⟩

set_option maxHeartbeats 4000000 in
set_option maxRecDepth 100000 in
theorem M_isTold4_m {l : Launch} {G : ax_G} (S : x_S) (M : x_M) (tl : List va_E) (i o n : Nat) (hi : 1 ≤ i ∧ i ≤ 4) (ho : 1 ≤ o ∧ o ≤ 4) (hc : M.1 2 = nI n) (hn : n ≤ 96) :
    AM l VV G M_isTold_y M_isTold_c 4 (some .boolean) 2 0 0 [.ref 153, .int (nI 4), .int (nI i), .int (nI o)] (x_hM S M tl) (fun v h' => v = some (.int (bI (dc (tp_P (M.2.1 1) n (i + o) (i + o))))) ∧ h' = x_hM S M tl) := by
  refine AM.of (pl := pl_M) (by decide) v_good fl_M_ok kl_M_ok nofun (Nat.le_of_ble_eq_true rfl) ?_
  intro p e s m args below meth c X
  refine AW.run X M_isTold_d 0 1 rfl ?_
  refine AW.tableOut X (M_isTold_d.d 1 rfl) (by decide) ?_
  refine AW.run X M_isTold_d 15 4 rfl ?_
  rw [nI_add]
  refine AW.callV (As := [.int (nI (i + o))]) X (M_arePairs_m S M tl (i + o) n (by omega) hc hn) cb_M_144 rfl rfl M_arePairs_im M_arePairs_se rfl ⟨Nat.le_of_ble_eq_true rfl, Nat.le_of_ble_eq_true rfl⟩ (Nat.le_of_ble_eq_true rfl) ⟨Nat.le_of_ble_eq_true rfl, Nat.le_of_ble_eq_true rfl⟩ (M_isTold_d.d 19 rfl) (fun v h' q => ?_)
  obtain ⟨rfl, rfl⟩ := q
  exact AW.zret X (by first | exact n_0 | exact n_1 | exact bI_nar _) (M_isTold_d.d 20 rfl) (Nat.le_of_ble_eq_true rfl) (Nat.le_of_ble_eq_true rfl) ⟨rfl, rfl⟩

def tp_k (kind x y : Int32) : Prop := (tp_i x 1 4 ∧ tp_i y 1 4) ∧ (kind = 0 ∧ x ≤ 3 ∨ (kind = 2 ∨ kind = 3) ∧ x = 1 ∨ kind = 4)
set_option maxHeartbeats 4000000 in
set_option maxRecDepth 100000 in
theorem M_isKind_m {l : Launch} {G : ax_G} {h : List va_E} (kind x y : Int32) :
    AM l VV G M_isKind_y M_isKind_c 5 (some .boolean) 1 0 0 [.int kind, .int x, .int y] (h) (fun v h' => v = some (.int (bI (dc (tp_k kind x y)))) ∧ h' = h) := by
  refine AM.of (pl := pl_M) (by decide) v_good fl_M_ok kl_M_ok nofun (Nat.le_of_ble_eq_true rfl) ?_
  intro p e s m args below meth c X
  refine AW.run X M_isKind_d 0 4 rfl ?_
  rw [i_l, show Int64.ofNat ((1 : Fin 2) : Nat) = lZ 1 from by decide, show (4 : Int64) = lZ 4 from by decide]
  refine AW.callS (As := [.long (lZ (x).toInt), .long (lZ 1), .long (lZ 4)]) X (M_isIn_m (x).toInt 1 4 (zL_of_i _) ⟨by decide, by decide⟩ ⟨by decide, by decide⟩) cb_M_92 M_isIn_st rfl ⟨Nat.le_of_ble_eq_true rfl, Nat.le_of_ble_eq_true rfl⟩ (Nat.le_of_ble_eq_true rfl) ⟨Nat.le_of_ble_eq_true rfl, Nat.le_of_ble_eq_true rfl⟩ (M_isKind_d.d 4 rfl) (fun v h' q => ?_)
  obtain ⟨rfl, e9⟩ := q
  rw [e9]
  clear e9
  rw [dc_dec]
  have J29 : ∀ (z : Int32), z = bI (dc (tp_i x 1 4 ∧ tp_i y 1 4)) → AW p l e (ax_R 1 0 0) s m args below meth c VV G 5 (h) 0 0 (MQ below (ax_Q VV G (fun v h' => v = some (.int (bI (dc (tp_k kind x y)))) ∧ h' = h)) args s 0 0 (fun q => G.bs ≤ q)) 29 [(0, .int kind), (1, .int x), (2, .int y)] [.int z] := by
    intro z hz
    subst hz
    refine AW.run X M_isKind_d 15 2 rfl ?_
    have J80 : ∀ (z : Int32), z = bI (dc (kind = 0 ∧ x ≤ 3 ∨ (kind = 2 ∨ kind = 3) ∧ x = 1 ∨ kind = 4)) → AW p l e (ax_R 1 0 0) s m args below meth c VV G 5 (h) 0 0 (MQ below (ax_Q VV G (fun v h' => v = some (.int (bI (dc (tp_k kind x y)))) ∧ h' = h)) args s 0 0 (fun q => G.bs ≤ q)) 80 [(3, .int (bI (dc (tp_i x 1 4 ∧ tp_i y 1 4)))), (0, .int kind), (1, .int x), (2, .int y)] [.int z] := by
      intro z hz
      subst hz
      refine AW.run X M_isKind_d 44 2 rfl ?_
      refine AW.if_eq X (M_isKind_d.d 46 rfl) (fun q46 => ?_) (fun q46 => ?_)
      · refine AW.run X M_isKind_d 51 1 rfl ?_
        exact AW.zret X (by first | exact n_0 | exact n_1 | exact bI_nar _) (M_isKind_d.d 52 rfl) (Nat.le_of_ble_eq_true rfl) (Nat.le_of_ble_eq_true rfl) ⟨vd_f (fun w => dq_f.mp q46 w.1), rfl⟩
      · refine AW.run X M_isKind_d 47 1 rfl ?_
        refine AW.if_eq X (M_isKind_d.d 48 rfl) (fun q48 => ?_) (fun q48 => ?_)
        · refine AW.run X M_isKind_d 51 1 rfl ?_
          exact AW.zret X (by first | exact n_0 | exact n_1 | exact bI_nar _) (M_isKind_d.d 52 rfl) (Nat.le_of_ble_eq_true rfl) (Nat.le_of_ble_eq_true rfl) ⟨vd_f (fun w => dq_f.mp q48 w.2), rfl⟩
        · refine AW.run X M_isKind_d 49 1 rfl ?_
          refine AW.goto X (M_isKind_d.d 50 rfl) ?_
          exact AW.zret X (by first | exact n_0 | exact n_1 | exact bI_nar _) (M_isKind_d.d 52 rfl) (Nat.le_of_ble_eq_true rfl) (Nat.le_of_ble_eq_true rfl) ⟨vd_t ⟨dq_t.mp q46, dq_t.mp q48⟩, rfl⟩
    refine AW.if_ne X (M_isKind_d.d 17 rfl) (fun q17 => ?_) (fun q17 => ?_)
    · refine AW.run X M_isKind_d 25 2 rfl ?_
      refine AW.icmp_eq X (M_isKind_d.d 27 rfl) (fun q27 => ?_) (fun q27 => ?_)
      · refine AW.run X M_isKind_d 31 2 rfl ?_
        refine AW.icmp_ne X (M_isKind_d.d 33 rfl) (fun q33 => ?_) (fun q33 => ?_)
        · refine AW.run X M_isKind_d 36 1 rfl ?_
          refine AW.goto X (M_isKind_d.d 37 rfl) ?_
          exact J80 _ (wd_f (fun w => w.elim (fun a => q17 a.1) (fun w => w.elim (fun a => q33 a.2) (fun a => absurd (q27.symm.trans a) (by decide)))))
        · refine AW.run X M_isKind_d 34 1 rfl ?_
          refine AW.goto X (M_isKind_d.d 35 rfl) ?_
          exact J80 _ (wd_t (Or.inr (Or.inl ⟨Or.inl q27, q33⟩)))
      · refine AW.run X M_isKind_d 28 2 rfl ?_
        refine AW.icmp_ne X (M_isKind_d.d 30 rfl) (fun q30 => ?_) (fun q30 => ?_)
        · refine AW.run X M_isKind_d 38 2 rfl ?_
          refine AW.icmp_ne X (M_isKind_d.d 40 rfl) (fun q40 => ?_) (fun q40 => ?_)
          · refine AW.run X M_isKind_d 43 1 rfl ?_
            exact J80 _ (wd_f (fun w => w.elim (fun a => q17 a.1) (fun w => w.elim (fun a => a.1.elim q27 q30) q40)))
          · refine AW.run X M_isKind_d 41 1 rfl ?_
            refine AW.goto X (M_isKind_d.d 42 rfl) ?_
            exact J80 _ (wd_t (Or.inr (Or.inr q40)))
        · refine AW.run X M_isKind_d 31 2 rfl ?_
          refine AW.icmp_ne X (M_isKind_d.d 33 rfl) (fun q33 => ?_) (fun q33 => ?_)
          · refine AW.run X M_isKind_d 36 1 rfl ?_
            refine AW.goto X (M_isKind_d.d 37 rfl) ?_
            exact J80 _ (wd_f (fun w => w.elim (fun a => q17 a.1) (fun w => w.elim (fun a => q33 a.2) (fun a => absurd (q30.symm.trans a) (by decide)))))
          · refine AW.run X M_isKind_d 34 1 rfl ?_
            refine AW.goto X (M_isKind_d.d 35 rfl) ?_
            exact J80 _ (wd_t (Or.inr (Or.inl ⟨Or.inr q30, q33⟩)))
    · refine AW.run X M_isKind_d 18 2 rfl ?_
      refine AW.icmp_gt X (M_isKind_d.d 20 rfl) (fun q20 => ?_) (fun q20 => ?_)
      · refine AW.run X M_isKind_d 23 1 rfl ?_
        refine AW.goto X (M_isKind_d.d 24 rfl) ?_
        exact J80 _ (wd_f (fun w => w.elim (fun a => k2_nle q20 a.2) (fun w => w.elim (fun a => a.1.elim (fun b => absurd (q17.symm.trans b) (by decide)) (fun b => absurd (q17.symm.trans b) (by decide))) (fun a => absurd (q17.symm.trans a) (by decide)))))
      · refine AW.run X M_isKind_d 21 1 rfl ?_
        refine AW.goto X (M_isKind_d.d 22 rfl) ?_
        exact J80 _ (wd_t (Or.inl ⟨q17, k2_le q20⟩))
  refine AW.if_eq X (M_isKind_d.d 5 rfl) (fun q5 => ?_) (fun q5 => ?_)
  · refine AW.run X M_isKind_d 14 1 rfl ?_
    exact J29 _ (wd_f (fun w => dq_f.mp q5 w.1))
  · refine AW.run X M_isKind_d 6 4 rfl ?_
    rw [i_l, show Int64.ofNat ((1 : Fin 2) : Nat) = lZ 1 from by decide, show (4 : Int64) = lZ 4 from by decide]
    refine AW.callS (As := [.long (lZ (y).toInt), .long (lZ 1), .long (lZ 4)]) X (M_isIn_m (y).toInt 1 4 (zL_of_i _) ⟨by decide, by decide⟩ ⟨by decide, by decide⟩) cb_M_92 M_isIn_st rfl ⟨Nat.le_of_ble_eq_true rfl, Nat.le_of_ble_eq_true rfl⟩ (Nat.le_of_ble_eq_true rfl) ⟨Nat.le_of_ble_eq_true rfl, Nat.le_of_ble_eq_true rfl⟩ (M_isKind_d.d 10 rfl) (fun v h' q => ?_)
    obtain ⟨rfl, e9⟩ := q
    rw [e9]
    clear e9
    rw [dc_dec]
    refine AW.if_eq X (M_isKind_d.d 11 rfl) (fun q11 => ?_) (fun q11 => ?_)
    · refine AW.run X M_isKind_d 14 1 rfl ?_
      exact J29 _ (wd_f (fun w => dq_f.mp q11 w.2))
    · refine AW.run X M_isKind_d 12 1 rfl ?_
      refine AW.goto X (M_isKind_d.d 13 rfl) ?_
      exact J29 _ (wd_t ⟨dq_t.mp q5, dq_t.mp q11⟩)

set_option maxHeartbeats 4000000 in
set_option maxRecDepth 100000 in
theorem M_signAt_m {l : Launch} {G : ax_G} (S : x_S) (M : x_M) (tl : List va_E) (f k : Nat) (hk : 8192 * f + k < 196608) :
    AM l VV G M_signAt_y M_signAt_c 3 (some .int) 0 0 0 [.ref 153, .int (nI f), .int (nI k)] (x_hM S M tl) (fun v h' => v = some (.int (M.2.1 9 (8192 * f + k) &&& 255)) ∧ h' = x_hM S M tl) := by
  refine AM.of (pl := pl_M) (by decide) v_good fl_M_ok kl_M_ok nofun (Nat.le_of_ble_eq_true rfl) ?_
  intro p e s m args below meth c X
  refine AW.run X M_signAt_d 0 7 rfl ?_
  refine AW.ml9 (j := 8192 * f + k) X (by rw [show (Int16.ofInt 8192).toInt32 * nI f = nI (8192 * f) from pk_mul 8192 f, nI_add]) hk (M_signAt_d.d 7 rfl) ?_
  refine AW.run X M_signAt_d 8 2 rfl ?_
  exact AW.iret X (M_signAt_d.d 10 rfl) (Nat.le_of_ble_eq_true rfl) (Nat.le_of_ble_eq_true rfl) ⟨rfl, rfl⟩

set_option maxHeartbeats 4000000 in
set_option maxRecDepth 100000 in
theorem M_show_m {l : Launch} {G : ax_G} (S : x_S) (M : x_M) (tl : List va_E) (a b : Int32) :
    AM l VV G M_show_y M_show_c 3 none 0 0 0 [.ref 153, .int a, .int b] (x_hM S M tl) (fun v h' => v = none ∧ h' = (if M.1 7 = 0 then x_hM S (y_i (y_i M 7 a) 8 b) tl else x_hM S M tl)) := by
  refine AM.of (pl := pl_M) (by decide) v_good fl_M_ok kl_M_ok nofun (Nat.le_of_ble_eq_true rfl) ?_
  intro p e s m args below meth c X
  refine AW.run X M_show_d 0 2 rfl ?_
  refine AW.if_ne X (M_show_d.d 2 rfl) (fun q2 => ?_) (fun q2 => ?_)
  · exact AW.vret X (M_show_d.d 9 rfl) (Nat.le_of_ble_eq_true rfl) (Nat.le_of_ble_eq_true rfl) ⟨rfl, by rw [if_neg q2]⟩
  · refine AW.run X M_show_d 3 2 rfl ?_
    refine AW.mp7 X (M_show_d.d 5 rfl) ?_
    refine AW.run X M_show_d 6 2 rfl ?_
    refine AW.mp8 X (M_show_d.d 8 rfl) ?_
    exact AW.vret X (M_show_d.d 9 rfl) (Nat.le_of_ble_eq_true rfl) (Nat.le_of_ble_eq_true rfl) ⟨rfl, by rw [if_pos q2]⟩

/-- how many samples: the product of the sizes from 0 to k, times out -/
def tp_n (f : Nat → Int32) (o : Nat) : Nat → Int
  | 0 => o
  | k + 1 => tp_n f o k * (f (5 * k + 2)).toInt
theorem tp_n_bd {f : Nat → Int32} {o : Nat} (ho : 1 ≤ o ∧ o ≤ 4) {k : Nat} (hk : k ≤ 3) (h : ∀ j, j < k → tp_i (f (5 * j + 2)) 1 64) : 1 ≤ tp_n f o k ∧ tp_n f o k ≤ 4 * 64 ^ k := by
  induction k with
  | zero => exact ⟨by show (1 : Int) ≤ o; omega, by show (o : Int) ≤ _; omega⟩
  | succ k ih =>
    obtain ⟨a, b⟩ := ih (by omega) (fun j hj => h j (by omega))
    have c := h k (by omega)
    have c1 := c.1
    have c2 := c.2
    constructor
    · show 1 ≤ tp_n f o k * _
      calc (1 : Int) = 1 * 1 := rfl
        _ ≤ _ := Int.mul_le_mul a c1 (by decide) (by omega)
    · show tp_n f o k * _ ≤ _
      rw [Int.pow_succ, ← Int.mul_assoc]
      exact Int.mul_le_mul b c2 (by omega) (Int.mul_nonneg (by decide) (Int.pow_nonneg (by decide)))
/-- how many bytes the samples want -/
def tp_y (f : Nat → Int32) (i o : Nat) : Int := (tp_n f o i * (f (5 * i)).toInt + 7) / 8
theorem tp_y_bd {f : Nat → Int32} {c i o k : Nat} (hi : 1 ≤ i ∧ i ≤ 3) (ho : 1 ≤ o ∧ o ≤ 4) (h : tp_S2 f c i o k) : 1 ≤ tp_n f o i ∧ tp_n f o i ≤ 1048576 ∧ 1 ≤ (f (5 * i)).toInt ∧ (f (5 * i)).toInt ≤ 16 ∧ 1 ≤ tp_n f o i * (f (5 * i)).toInt ∧ tp_n f o i * (f (5 * i)).toInt ≤ 16777216 := by
  obtain ⟨a, b⟩ := tp_n_bd (f := f) ho hi.2 (fun j hj => (h.1.2 j hj).2)
  have e : (4 * 64 ^ i : Int) ≤ 1048576 := by
    have : i = 1 ∨ i = 2 ∨ i = 3 := by omega
    rcases this with rfl | rfl | rfl <;> decide
  have hb : 1 ≤ (f (5 * i)).toInt ∧ (f (5 * i)).toInt ≤ 16 := by
    rcases h.2.1 with z | z | z | z | z | z <;> rw [z] <;> decide
  refine ⟨a, by omega, hb.1, hb.2, ?_, ?_⟩
  · calc (1 : Int) = 1 * 1 := rfl
      _ ≤ _ := Int.mul_le_mul a hb.1 (by decide) (by omega)
  · calc _ ≤ (1048576 : Int) * 16 := Int.mul_le_mul (by omega) hb.2 (by omega) (by decide)
      _ = _ := by decide
set_option maxHeartbeats 4000000 in
set_option maxRecDepth 100000 in
theorem M_sampleBytes_m {l : Launch} {G : ax_G} (S : x_S) (M : x_M) (tl : List va_E) (i o c : Nat) (hi : 1 ≤ i ∧ i ≤ 3) (ho : 1 ≤ o ∧ o ≤ 4) (hS : tp_S2 (M.2.1 1) c i o o) :
    AM l VV G M_sampleBytes_y M_sampleBytes_c 6 (some .int) 0 0 0 [.ref 153, .int (nI i), .int (nI o)] (x_hM S M tl) (fun v h' => v = some (.int (iZ (tp_y (M.2.1 1) i o))) ∧ h' = x_hM S M tl) := by
  refine AM.of (pl := pl_M) (by decide) v_good fl_M_ok kl_M_ok nofun (Nat.le_of_ble_eq_true rfl) ?_
  intro p e s m args below meth c X
  refine AW.run X M_sampleBytes_d 0 5 rfl ?_
  have L6 : ∀ (t k : Nat), k ≤ i → i - k < t → AW p l e (ax_R 0 0 0) s m args below meth c VV G 6 (x_hM S M tl) 0 0 (MQ below (ax_Q VV G (fun v h' => v = some (.int (iZ (tp_y (M.2.1 1) i o))) ∧ h' = x_hM S M tl)) args s 0 0 (fun q => G.bs ≤ q)) 6 [(5, .int (nI k)), (3, .long (lZ (tp_n (M.2.1 1) o k))), (0, .ref 153), (1, .int (nI i)), (2, .int (nI o))] [] := by
    intro t
    induction t with
    | zero => intro k h1 h2; exact absurd h2 (by omega)
    | succ t ih =>
      intro k h1 h2
      refine AW.run X M_sampleBytes_d 5 2 rfl ?_
      refine AW.icmp_ge X (M_sampleBytes_d.d 7 rfl) (fun q7 => ?_) (fun q7 => ?_)
      · have e9 : i = k := by have := cge q7; omega
        subst e9
        obtain ⟨b1, b2, b3, b4, b5, b6⟩ := tp_y_bd hi ho hS
        refine AW.run X M_sampleBytes_d 22 6 rfl ?_
        refine AW.ml1 (j := 5 * i) X (pk_mul 5 i) (by omega) (M_sampleBytes_d.d 28 rfl) ?_
        refine AW.run X M_sampleBytes_d 29 5 rfl ?_
        rw [i_l, lZ_mul, show (7 : Int64) = lZ 7 from rfl, lZ_add]
        refine AW.ldiv X (M_sampleBytes_d.d 34 rfl) (by decide) ?_
        rw [show (8 : Int64) = lZ 8 from rfl, lZ_div ⟨by omega, by omega⟩ ⟨by decide, by decide⟩ (Or.inr (by decide))]
        refine AW.run X M_sampleBytes_d 35 1 rfl ?_
        exact AW.iret X (M_sampleBytes_d.d 36 rfl) (Nat.le_of_ble_eq_true rfl) (Nat.le_of_ble_eq_true rfl) ⟨by rw [lZ_i, Int.tdiv_eq_ediv_of_nonneg (by omega)]; rfl, rfl⟩
      · have hk : k < i := clt q7
        refine AW.run X M_sampleBytes_d 8 8 rfl ?_
        refine AW.ml1 (j := 5 * k + 2) X (by rw [show Int32.ofInt 5 * nI k = nI (5 * k) from pk_mul 5 k]; exact nI_add (5 * k) 2) (show 5 * k + 2 < 96 by omega) (M_sampleBytes_d.d 16 rfl) ?_
        refine AW.run X M_sampleBytes_d 17 4 rfl ?_
        refine AW.goto X (M_sampleBytes_d.d 21 rfl) ?_
        rw [nI_o1, i_l, lZ_mul]
        exact ih (k + 1) (by omega) (by omega)
  rw [show (nI o).toInt64 = lZ (tp_n (M.2.1 1) o 0) from by rw [iZ_n]; exact iZ_l ⟨by omega, by omega⟩]
  exact L6 (i + 1) 0 (by omega) (by omega)

