/-! the reference: is the telling the one said? -/
def tp_p (f : Nat → Int32) (a : Nat) : Prop := f a ≤ f (a + 1)
def tp_i (x : Int32) (lo hi : Int) : Prop := lo ≤ x.toInt ∧ x.toInt ≤ hi
def tp_b (x : Int32) : Prop := x = 1 ∨ x = 2 ∨ x = 4 ∨ x = 8 ∨ x = 12 ∨ x = 16
def tp_P (f : Nat → Int32) (c : Nat) (many k : Nat) : Prop := c = 2 * many ∧ ∀ j, j < k → tp_p f (2 * j)
def tp_S1 (f : Nat → Int32) (c i o k : Nat) : Prop := c = 5 * i + 1 + 4 * o ∧ ∀ j, j < k → tp_p f (5 * j) ∧ tp_i (f (5 * j + 2)) 1 64
def tp_S2 (f : Nat → Int32) (c i o k : Nat) : Prop := tp_S1 f c i o i ∧ tp_b (f (5 * i)) ∧ ∀ j, j < k → tp_p f (5 * i + 1 + 4 * j)
def tp_W (f : Nat → Int32) (c o : Nat) : Prop := c = 3 + 2 * o ∧ tp_p f 0 ∧ tp_i (f 2) 0 16
/-- a choice between two things, decided -/
noncomputable def dc (P : Prop) : Bool := @decide P (Classical.propDecidable P)
theorem dc_t {P : Prop} (h : P) : dc P = true := @decide_eq_true P (Classical.propDecidable P) h
theorem dc_f {P : Prop} (h : ¬ P) : dc P = false := @decide_eq_false P (Classical.propDecidable P) h
theorem dq_t {P : Prop} : ¬ bI (dc P) = 0 ↔ P := by
  by_cases h : P
  · rw [dc_t h]; simp [h, bI]
  · rw [dc_f h]; simp [h, bI]
theorem dq_f {P : Prop} : bI (dc P) = 0 ↔ ¬ P := by
  by_cases h : P
  · rw [dc_t h]; simp [h, bI]
  · rw [dc_f h]; simp [h, bI]
theorem vd_t {P : Prop} (h : P) : some (Value.int (Int32.ofInt 1)) = some (.int (bI (dc P))) := by rw [dc_t h]; rfl
theorem vd_f {P : Prop} (h : ¬ P) : some (Value.int (Int32.ofInt 0)) = some (.int (bI (dc P))) := by rw [dc_f h]; rfl
theorem wd_t {P : Prop} (h : P) : Int32.ofInt 1 = bI (dc P) := by rw [dc_t h]; rfl
theorem wd_f {P : Prop} (h : ¬ P) : Int32.ofInt 0 = bI (dc P) := by rw [dc_f h]; rfl
theorem dc_dec {P : Prop} [Decidable P] : decide P = dc P := by
  by_cases h : P
  · rw [dc_t h, decide_eq_true h]
  · rw [dc_f h, decide_eq_false h]
theorem dc_iff {P Q : Prop} (h : P ↔ Q) : dc P = dc Q := by rw [propext h]
set_option maxHeartbeats 4000000 in
set_option maxRecDepth 100000 in
theorem M_isPair_m {l : Launch} {G : ax_G} (S : x_S) (M : x_M) (tl : List va_E) (a : Nat) (ha : a + 1 < 96) :
    AM l VV G M_isPair_y M_isPair_c 2 (some .boolean) 0 0 0 [.ref 111, .int (nI a)] (x_hM S M tl) (fun v h' => v = some (.int (bI (dc (tp_p (M.2.1 1) a)))) ∧ h' = x_hM S M tl) := by
  refine AM.of (pl := pl_M) (by decide) v_good fl_M_ok kl_M_ok nofun (Nat.le_of_ble_eq_true rfl) ?_
  intro p e s m args below meth c X
  refine AW.run X M_isPair_d 0 3 rfl ?_
  refine AW.ml1 (j := a) X rfl (show a < 96 by omega) (M_isPair_d.d 3 rfl) ?_
  refine AW.run X M_isPair_d 4 5 rfl ?_
  refine AW.ml1 (j := a + 1) X (nI_o1 a) ha (M_isPair_d.d 9 rfl) ?_
  refine AW.icmp_gt X (M_isPair_d.d 10 rfl) (fun q10 => ?_) (fun q10 => ?_)
  · refine AW.run X M_isPair_d 13 1 rfl ?_
    exact AW.zret X n_0 (M_isPair_d.d 14 rfl) (Nat.le_of_ble_eq_true rfl) (Nat.le_of_ble_eq_true rfl) ⟨vd_f (k2_nle q10), rfl⟩
  · refine AW.run X M_isPair_d 11 1 rfl ?_
    refine AW.goto X (M_isPair_d.d 12 rfl) ?_
    exact AW.zret X n_1 (M_isPair_d.d 14 rfl) (Nat.le_of_ble_eq_true rfl) (Nat.le_of_ble_eq_true rfl) ⟨vd_t (k2_le q10), rfl⟩

set_option maxHeartbeats 4000000 in
set_option maxRecDepth 100000 in
theorem M_arePairs_m {l : Launch} {G : ax_G} (S : x_S) (M : x_M) (tl : List va_E) (many n : Nat) (hm : many ≤ 8) (hc : M.1 2 = nI n) (hn : n ≤ 96) :
    AM l VV G M_arePairs_y M_arePairs_c 4 (some .boolean) 1 0 0 [.ref 111, .int (nI many)] (x_hM S M tl) (fun v h' => v = some (.int (bI (dc (tp_P (M.2.1 1) n many many)))) ∧ h' = x_hM S M tl) := by
  refine AM.of (pl := pl_M) (by decide) v_good fl_M_ok kl_M_ok nofun (Nat.le_of_ble_eq_true rfl) ?_
  intro p e s m args below meth c X
  refine AW.run X M_arePairs_d 0 5 rfl ?_
  have J15 : ∀ (z : Int32), z = bI (dc (tp_P (M.2.1 1) n many 0)) → AW p l e (ax_R 1 0 0) s m args below meth c VV G 4 (x_hM S M tl) 0 0 (MQ below (ax_Q VV G (fun v h' => v = some (.int (bI (dc (tp_P (M.2.1 1) n many many)))) ∧ h' = x_hM S M tl)) args s 0 0 (fun q => G.bs ≤ q)) 15 [(0, .ref 111), (1, .int (nI many))] [.int z] := by
    intro z hz
    subst hz
    refine AW.run X M_arePairs_d 9 3 rfl ?_
    have L18 : ∀ (t k : Nat), k ≤ many → many - k < t → AW p l e (ax_R 1 0 0) s m args below meth c VV G 4 (x_hM S M tl) 0 0 (MQ below (ax_Q VV G (fun v h' => v = some (.int (bI (dc (tp_P (M.2.1 1) n many many)))) ∧ h' = x_hM S M tl)) args s 0 0 (fun q => G.bs ≤ q)) 18 [(3, .int (nI k)), (2, .int (bI (dc (tp_P (M.2.1 1) n many k)))), (0, .ref 111), (1, .int (nI many))] [] := by
      intro t
      induction t with
      | zero => intro k h1 h2; exact absurd h2 (by omega)
      | succ t ih =>
        intro k h1 h2
        refine AW.run X M_arePairs_d 12 2 rfl ?_
        refine AW.icmp_ge X (M_arePairs_d.d 14 rfl) (fun q14 => ?_) (fun q14 => ?_)
        · refine AW.run X M_arePairs_d 25 1 rfl ?_
          exact AW.zret X (bI_nar _) (M_arePairs_d.d 26 rfl) (Nat.le_of_ble_eq_true rfl) (Nat.le_of_ble_eq_true rfl) ⟨by rw [show k = many by have := cge q14; omega], rfl⟩
        · refine AW.run X M_arePairs_d 15 1 rfl ?_
          refine AW.if_eq X (M_arePairs_d.d 16 rfl) (fun q16 => ?_) (fun q16 => ?_)
          · refine AW.run X M_arePairs_d 25 1 rfl ?_
            exact AW.zret X (by first | exact n_0 | exact n_1 | exact bI_nar _) (M_arePairs_d.d 26 rfl) (Nat.le_of_ble_eq_true rfl) (Nat.le_of_ble_eq_true rfl) ⟨by rw [dc_iff (Q := tp_P (M.2.1 1) n many many) ⟨fun z => absurd z (dq_f.mp q16), fun z => ⟨z.1, fun j hj => z.2 j (by omega)⟩⟩], rfl⟩
          · refine AW.run X M_arePairs_d 17 4 rfl ?_
            have hP := dq_t.mp q16
            have hk : k < many := clt q14
            rw [show Int32.ofInt 2 * nI k = nI (2 * k) from pk_mul 2 k]
            refine AW.callV (As := [.int (nI (2 * k))]) X (M_isPair_m S M tl (2 * k) (by have := hP.1; omega)) cb_M_125 rfl rfl M_isPair_im M_isPair_se rfl ⟨Nat.le_of_ble_eq_true rfl, Nat.le_of_ble_eq_true rfl⟩ (Nat.le_of_ble_eq_true rfl) ⟨Nat.le_of_ble_eq_true rfl, Nat.le_of_ble_eq_true rfl⟩ (M_arePairs_d.d 21 rfl) (fun v h' q => ?_)
            obtain ⟨rfl, rfl⟩ := q
            refine AW.run X M_arePairs_d 22 2 rfl ?_
            refine AW.goto X (M_arePairs_d.d 24 rfl) ?_
            rw [nI_o1, show dc (tp_p (M.2.1 1) (2 * k)) = dc (tp_P (M.2.1 1) n many (k + 1)) from dc_iff ⟨fun z => ⟨hP.1, fun j hj => by
              by_cases e1 : j = k
              · rw [e1]; exact z
              · exact hP.2 j (by omega)⟩, fun z => z.2 k (by omega)⟩]
            exact ih (k + 1) (by omega) (by omega)
    exact L18 (many + 1) 0 (by omega) (by omega)
  refine AW.icmp_ne X (M_arePairs_d.d 5 rfl) (fun q5 => ?_) (fun q5 => ?_)
  · refine AW.run X M_arePairs_d 8 1 rfl ?_
    exact J15 _ (wd_f (fun z => q5 (by rw [hc, z.1]; exact (pk_mul 2 many).symm)))
  · refine AW.run X M_arePairs_d 6 1 rfl ?_
    refine AW.goto X (M_arePairs_d.d 7 rfl) ?_
    exact J15 _ (wd_t ⟨ceq q5 hc (pk_mul 2 many) (by omega) (by omega), fun j hj => absurd hj (by omega)⟩)

theorem zL_of_i (x : Int32) : zL x.toInt := ⟨by have := (zI_i x).1; omega, by have := (zI_i x).2; omega⟩
set_option maxHeartbeats 4000000 in
set_option maxRecDepth 100000 in
theorem M_isPowers_m {l : Launch} {G : ax_G} (S : x_S) (M : x_M) (tl : List va_E) (out n : Nat) (ho : out ≤ 4) (hc : M.1 2 = nI n) (hn : n ≤ 96) :
    AM l VV G M_isPowers_y M_isPowers_c 2 (some .boolean) 1 0 0 [.ref 111, .int (nI out)] (x_hM S M tl) (fun v h' => v = some (.int (bI (dc (tp_W (M.2.1 1) n out)))) ∧ h' = x_hM S M tl) := by
  refine AM.of (pl := pl_M) (by decide) v_good fl_M_ok kl_M_ok nofun (Nat.le_of_ble_eq_true rfl) ?_
  intro p e s m args below meth c X
  refine AW.run X M_isPowers_d 0 7 rfl ?_
  refine AW.icmp_ne X (M_isPowers_d.d 7 rfl) (fun q7 => ?_) (fun q7 => ?_)
  · refine AW.run X M_isPowers_d 23 1 rfl ?_
    exact AW.zret X n_0 (M_isPowers_d.d 24 rfl) (Nat.le_of_ble_eq_true rfl) (Nat.le_of_ble_eq_true rfl) ⟨vd_f (fun z => q7 (by rw [hc, z.1, show Int32.ofInt 2 * nI out = nI (2 * out) from pk_mul 2 out]; exact (nI_add 3 (2 * out)).symm)), rfl⟩
  · have hn3 : n = 3 + 2 * out := ceq q7 hc (by rw [show Int32.ofInt 2 * nI out = nI (2 * out) from pk_mul 2 out]; exact nI_add 3 (2 * out)) (by omega) (by omega)
    refine AW.run X M_isPowers_d 8 2 rfl ?_
    refine AW.callV (As := [.int (nI 0)]) X (M_isPair_m S M tl 0 (by decide)) cb_M_125 rfl rfl M_isPair_im M_isPair_se rfl ⟨Nat.le_of_ble_eq_true rfl, Nat.le_of_ble_eq_true rfl⟩ (Nat.le_of_ble_eq_true rfl) ⟨Nat.le_of_ble_eq_true rfl, Nat.le_of_ble_eq_true rfl⟩ (M_isPowers_d.d 10 rfl) (fun v h' q => ?_)
    obtain ⟨rfl, rfl⟩ := q
    refine AW.if_eq X (M_isPowers_d.d 11 rfl) (fun q11 => ?_) (fun q11 => ?_)
    · refine AW.run X M_isPowers_d 23 1 rfl ?_
      exact AW.zret X n_0 (M_isPowers_d.d 24 rfl) (Nat.le_of_ble_eq_true rfl) (Nat.le_of_ble_eq_true rfl) ⟨vd_f (fun z => dq_f.mp q11 z.2.1), rfl⟩
    · refine AW.run X M_isPowers_d 12 3 rfl ?_
      refine AW.ml1 (j := 2) X rfl (by decide) (M_isPowers_d.d 15 rfl) ?_
      refine AW.run X M_isPowers_d 16 3 rfl ?_
      rw [i_l, show Int64.ofNat ((0 : Fin 2) : Nat) = lZ 0 from by decide, show (16 : Int64) = lZ 16 from by decide]
      refine AW.callS (As := [.long (lZ (M.2.1 1 2).toInt), .long (lZ 0), .long (lZ 16)]) X (M_isIn_m (M.2.1 1 2).toInt 0 16 (zL_of_i _) ⟨by decide, by decide⟩ ⟨by decide, by decide⟩) cb_M_92 M_isIn_st rfl ⟨Nat.le_of_ble_eq_true rfl, Nat.le_of_ble_eq_true rfl⟩ (Nat.le_of_ble_eq_true rfl) ⟨Nat.le_of_ble_eq_true rfl, Nat.le_of_ble_eq_true rfl⟩ (M_isPowers_d.d 19 rfl) (fun v h' q => ?_)
      obtain ⟨rfl, rfl⟩ := q
      rw [dc_dec]
      refine AW.if_eq X (M_isPowers_d.d 20 rfl) (fun q20 => ?_) (fun q20 => ?_)
      · refine AW.run X M_isPowers_d 23 1 rfl ?_
        exact AW.zret X n_0 (M_isPowers_d.d 24 rfl) (Nat.le_of_ble_eq_true rfl) (Nat.le_of_ble_eq_true rfl) ⟨vd_f (fun z => dq_f.mp q20 z.2.2), rfl⟩
      · refine AW.run X M_isPowers_d 21 1 rfl ?_
        refine AW.goto X (M_isPowers_d.d 22 rfl) ?_
        exact AW.zret X n_1 (M_isPowers_d.d 24 rfl) (Nat.le_of_ble_eq_true rfl) (Nat.le_of_ble_eq_true rfl) ⟨vd_t ⟨hn3, dq_t.mp q11, dq_t.mp q20⟩, rfl⟩

set_option maxHeartbeats 4000000 in
set_option maxRecDepth 100000 in
theorem M_isSamples_m {l : Launch} {G : ax_G} (S : x_S) (M : x_M) (tl : List va_E) (i o n : Nat) (hi : 1 ≤ i ∧ i ≤ 3) (ho : 1 ≤ o ∧ o ≤ 4) (hc : M.1 2 = nI n) (hn : n ≤ 96) :
    AM l VV G M_isSamples_y M_isSamples_c 6 (some .boolean) 1 0 0 [.ref 111, .int (nI i), .int (nI o)] (x_hM S M tl) (fun v h' => v = some (.int (bI (dc (tp_S2 (M.2.1 1) n i o o)))) ∧ h' = x_hM S M tl) := by
  refine AM.of (pl := pl_M) (by decide) v_good fl_M_ok kl_M_ok nofun (Nat.le_of_ble_eq_true rfl) ?_
  intro p e s m args below meth c X
  have e0 : Int32.ofInt 5 * nI i + Int32.ofInt 1 + Int32.ofInt 4 * nI o = nI (5 * i + 1 + 4 * o) := by rw [show Int32.ofInt 5 * nI i = nI (5 * i) from pk_mul 5 i, nI_o1, show Int32.ofInt 4 * nI o = nI (4 * o) from pk_mul 4 o, nI_add]
  refine AW.run X M_isSamples_d 0 11 rfl ?_
  have J21 : ∀ (z : Int32), z = bI (dc (tp_S1 (M.2.1 1) n i o 0)) → AW p l e (ax_R 1 0 0) s m args below meth c VV G 6 (x_hM S M tl) 0 0 (MQ below (ax_Q VV G (fun v h' => v = some (.int (bI (dc (tp_S2 (M.2.1 1) n i o o)))) ∧ h' = x_hM S M tl)) args s 0 0 (fun q => G.bs ≤ q)) 21 [(0, .ref 111), (1, .int (nI i)), (2, .int (nI o))] [.int z] := by
    intro z hz
    subst hz
    refine AW.run X M_isSamples_d 15 1 rfl ?_
    have J80 : ∀ (u : Unit), True → AW p l e (ax_R 1 0 0) s m args below meth c VV G 6 (x_hM S M tl) 0 0 (MQ below (ax_Q VV G (fun v h' => v = some (.int (bI (dc (tp_S2 (M.2.1 1) n i o o)))) ∧ h' = x_hM S M tl)) args s 0 0 (fun q => G.bs ≤ q)) 80 [(3, .int (bI (dc (tp_S1 (M.2.1 1) n i o i)))), (0, .ref 111), (1, .int (nI i)), (2, .int (nI o))] [] := by
      intro u hu
      refine AW.run X M_isSamples_d 48 1 rfl ?_
      have J96 : ∀ (b : Int32), (tp_S1 (M.2.1 1) n i o i → b = (M.2.1 1) (5 * i)) → AW p l e (ax_R 1 0 0) s m args below meth c VV G 6 (x_hM S M tl) 0 0 (MQ below (ax_Q VV G (fun v h' => v = some (.int (bI (dc (tp_S2 (M.2.1 1) n i o o)))) ∧ h' = x_hM S M tl)) args s 0 0 (fun q => G.bs ≤ q)) 96 [(3, .int (bI (dc (tp_S1 (M.2.1 1) n i o i)))), (0, .ref 111), (1, .int (nI i)), (2, .int (nI o))] [.int b] := by
        intro b hb
        refine AW.run X M_isSamples_d 58 2 rfl ?_
        have J146 : ∀ (z : Int32), z = bI (dc (tp_S2 (M.2.1 1) n i o 0)) → AW p l e (ax_R 1 0 0) s m args below meth c VV G 6 (x_hM S M tl) 0 0 (MQ below (ax_Q VV G (fun v h' => v = some (.int (bI (dc (tp_S2 (M.2.1 1) n i o o)))) ∧ h' = x_hM S M tl)) args s 0 0 (fun q => G.bs ≤ q)) 146 [(4, .int b), (3, .int (bI (dc (tp_S1 (M.2.1 1) n i o i)))), (0, .ref 111), (1, .int (nI i)), (2, .int (nI o))] [.int z] := by
          intro z hz
          subst hz
          refine AW.run X M_isSamples_d 82 1 rfl ?_
          have J181 : ∀ (u : Unit), True → AW p l e (ax_R 1 0 0) s m args below meth c VV G 6 (x_hM S M tl) 0 0 (MQ below (ax_Q VV G (fun v h' => v = some (.int (bI (dc (tp_S2 (M.2.1 1) n i o o)))) ∧ h' = x_hM S M tl)) args s 0 0 (fun q => G.bs ≤ q)) 181 [(3, .int (bI (dc (tp_S2 (M.2.1 1) n i o o)))), (0, .ref 111), (1, .int (nI i)), (2, .int (nI o))] [] := by
            intro u hu
            refine AW.run X M_isSamples_d 104 1 rfl ?_
            exact AW.zret X (by first | exact n_0 | exact n_1 | exact bI_nar _) (M_isSamples_d.d 105 rfl) (Nat.le_of_ble_eq_true rfl) (Nat.le_of_ble_eq_true rfl) ⟨rfl, rfl⟩
          refine AW.run X M_isSamples_d 83 2 rfl ?_
          have L150 : ∀ (t k : Nat), k ≤ o → o - k < t → AW p l e (ax_R 1 0 0) s m args below meth c VV G 6 (x_hM S M tl) 0 0 (MQ below (ax_Q VV G (fun v h' => v = some (.int (bI (dc (tp_S2 (M.2.1 1) n i o o)))) ∧ h' = x_hM S M tl)) args s 0 0 (fun q => G.bs ≤ q)) 150 [(5, .int (nI k)), (3, .int (bI (dc (tp_S2 (M.2.1 1) n i o k)))), (0, .ref 111), (1, .int (nI i)), (2, .int (nI o))] [] := by
            intro t
            induction t with
            | zero => intro k h1 h2; exact absurd h2 (by omega)
            | succ t ih =>
              intro k h1 h2
              refine AW.run X M_isSamples_d 85 2 rfl ?_
              refine AW.icmp_ge X (M_isSamples_d.d 87 rfl) (fun q87 => ?_) (fun q87 => ?_)
              · refine AW.pk [1, 2, 3, 4] rfl ?_
                have e9 : k = o := by have := cge q87; omega
                subst e9
                exact J181 () trivial
              · refine AW.run X M_isSamples_d 88 1 rfl ?_
                refine AW.if_eq X (M_isSamples_d.d 89 rfl) (fun q89 => ?_) (fun q89 => ?_)
                · refine AW.pk [1, 2, 3, 4] rfl ?_
                  rw [dc_iff (P := tp_S2 (M.2.1 1) n i o k) (Q := tp_S2 (M.2.1 1) n i o o) ⟨fun z => absurd z (dq_f.mp q89), fun z => ⟨z.1, z.2.1, fun j hj => z.2.2 j (by omega)⟩⟩]
                  exact J181 () trivial
                · refine AW.run X M_isSamples_d 90 10 rfl ?_
                  have hP := dq_t.mp q89
                  have hk : k < o := clt q87
                  rw [show Int32.ofInt 5 * nI i = nI (5 * i) from pk_mul 5 i, nI_o1, show Int32.ofInt 4 * nI k = nI (4 * k) from pk_mul 4 k, nI_add]
                  refine AW.callV (As := [.int (nI (5 * i + 1 + 4 * k))]) X (M_isPair_m S M tl (5 * i + 1 + 4 * k) (by have := hP.1.1; omega)) cb_M_125 rfl rfl M_isPair_im M_isPair_se rfl ⟨Nat.le_of_ble_eq_true rfl, Nat.le_of_ble_eq_true rfl⟩ (Nat.le_of_ble_eq_true rfl) ⟨Nat.le_of_ble_eq_true rfl, Nat.le_of_ble_eq_true rfl⟩ (M_isSamples_d.d 100 rfl) (fun v h' q => ?_)
                  obtain ⟨rfl, rfl⟩ := q
                  refine AW.run X M_isSamples_d 101 2 rfl ?_
                  refine AW.goto X (M_isSamples_d.d 103 rfl) ?_
                  rw [nI_o1, show dc (tp_p (M.2.1 1) (5 * i + 1 + 4 * k)) = dc (tp_S2 (M.2.1 1) n i o (k + 1)) from dc_iff ⟨fun z => ⟨hP.1, hP.2.1, fun j hj => by
                    by_cases e1 : j = k
                    · rw [e1]; exact z
                    · exact hP.2.2 j (by omega)⟩, fun z => z.2.2 k (by omega)⟩]
                  exact ih (k + 1) (by omega) (by omega)
          refine AW.pk [0, 1, 3, 4, 5] rfl ?_
          exact L150 (o + 1) 0 (by omega) (by omega)
        refine AW.if_eq X (M_isSamples_d.d 60 rfl) (fun q60 => ?_) (fun q60 => ?_)
        · refine AW.run X M_isSamples_d 81 1 rfl ?_
          exact J146 _ (wd_f (fun z => dq_f.mp q60 z.1))
        · refine AW.run X M_isSamples_d 61 2 rfl ?_
          refine AW.icmp_eq X (M_isSamples_d.d 63 rfl) (fun q63 => ?_) (fun q63 => ?_)
          · refine AW.run X M_isSamples_d 79 1 rfl ?_
            refine AW.goto X (M_isSamples_d.d 80 rfl) ?_
            exact J146 _ (wd_t ⟨dq_t.mp q60, hb (dq_t.mp q60) ▸ Or.inl q63, fun j hj => absurd hj (by omega)⟩)
          · refine AW.run X M_isSamples_d 64 2 rfl ?_
            refine AW.icmp_eq X (M_isSamples_d.d 66 rfl) (fun q66 => ?_) (fun q66 => ?_)
            · refine AW.run X M_isSamples_d 79 1 rfl ?_
              refine AW.goto X (M_isSamples_d.d 80 rfl) ?_
              exact J146 _ (wd_t ⟨dq_t.mp q60, hb (dq_t.mp q60) ▸ Or.inr (Or.inl q66), fun j hj => absurd hj (by omega)⟩)
            · refine AW.run X M_isSamples_d 67 2 rfl ?_
              refine AW.icmp_eq X (M_isSamples_d.d 69 rfl) (fun q69 => ?_) (fun q69 => ?_)
              · refine AW.run X M_isSamples_d 79 1 rfl ?_
                refine AW.goto X (M_isSamples_d.d 80 rfl) ?_
                exact J146 _ (wd_t ⟨dq_t.mp q60, hb (dq_t.mp q60) ▸ Or.inr (Or.inr (Or.inl q69)), fun j hj => absurd hj (by omega)⟩)
              · refine AW.run X M_isSamples_d 70 2 rfl ?_
                refine AW.icmp_eq X (M_isSamples_d.d 72 rfl) (fun q72 => ?_) (fun q72 => ?_)
                · refine AW.run X M_isSamples_d 79 1 rfl ?_
                  refine AW.goto X (M_isSamples_d.d 80 rfl) ?_
                  exact J146 _ (wd_t ⟨dq_t.mp q60, hb (dq_t.mp q60) ▸ Or.inr (Or.inr (Or.inr (Or.inl q72))), fun j hj => absurd hj (by omega)⟩)
                · refine AW.run X M_isSamples_d 73 2 rfl ?_
                  refine AW.icmp_eq X (M_isSamples_d.d 75 rfl) (fun q75 => ?_) (fun q75 => ?_)
                  · refine AW.run X M_isSamples_d 79 1 rfl ?_
                    refine AW.goto X (M_isSamples_d.d 80 rfl) ?_
                    exact J146 _ (wd_t ⟨dq_t.mp q60, hb (dq_t.mp q60) ▸ Or.inr (Or.inr (Or.inr (Or.inr (Or.inl q75)))), fun j hj => absurd hj (by omega)⟩)
                  · refine AW.run X M_isSamples_d 76 2 rfl ?_
                    refine AW.icmp_ne X (M_isSamples_d.d 78 rfl) (fun q78 => ?_) (fun q78 => ?_)
                    · refine AW.run X M_isSamples_d 81 1 rfl ?_
                      exact J146 _ (wd_f (fun z => (hb z.1 ▸ z.2.1 : tp_b b).elim q63 fun z => z.elim q66 fun z => z.elim q69 fun z => z.elim q72 fun z => z.elim q75 q78))
                    · refine AW.run X M_isSamples_d 79 1 rfl ?_
                      refine AW.goto X (M_isSamples_d.d 80 rfl) ?_
                      exact J146 _ (wd_t ⟨dq_t.mp q60, hb (dq_t.mp q60) ▸ Or.inr (Or.inr (Or.inr (Or.inr (Or.inr q78)))), fun j hj => absurd hj (by omega)⟩)
      refine AW.if_eq X (M_isSamples_d.d 49 rfl) (fun q49 => ?_) (fun q49 => ?_)
      · refine AW.run X M_isSamples_d 57 1 rfl ?_
        exact J96 _ (fun z => absurd z (dq_f.mp q49))
      · refine AW.run X M_isSamples_d 50 5 rfl ?_
        refine AW.ml1 (j := 5 * i) X (pk_mul 5 i) (by omega) (M_isSamples_d.d 55 rfl) ?_
        refine AW.goto X (M_isSamples_d.d 56 rfl) ?_
        exact J96 _ (fun z => rfl)
    refine AW.run X M_isSamples_d 16 2 rfl ?_
    have L25 : ∀ (t k : Nat), k ≤ i → i - k < t → AW p l e (ax_R 1 0 0) s m args below meth c VV G 6 (x_hM S M tl) 0 0 (MQ below (ax_Q VV G (fun v h' => v = some (.int (bI (dc (tp_S2 (M.2.1 1) n i o o)))) ∧ h' = x_hM S M tl)) args s 0 0 (fun q => G.bs ≤ q)) 25 [(4, .int (nI k)), (3, .int (bI (dc (tp_S1 (M.2.1 1) n i o k)))), (0, .ref 111), (1, .int (nI i)), (2, .int (nI o))] [] := by
      intro t
      induction t with
      | zero => intro k h1 h2; exact absurd h2 (by omega)
      | succ t ih =>
        intro k h1 h2
        refine AW.run X M_isSamples_d 18 2 rfl ?_
        refine AW.icmp_ge X (M_isSamples_d.d 20 rfl) (fun q20 => ?_) (fun q20 => ?_)
        · refine AW.pk [1, 2, 3, 4] rfl ?_
          have e9 : k = i := by have := cge q20; omega
          subst e9
          exact J80 () trivial
        · refine AW.run X M_isSamples_d 21 1 rfl ?_
          refine AW.if_eq X (M_isSamples_d.d 22 rfl) (fun q22 => ?_) (fun q22 => ?_)
          · refine AW.pk [1, 2, 3, 4] rfl ?_
            rw [dc_iff (P := tp_S1 (M.2.1 1) n i o k) (Q := tp_S1 (M.2.1 1) n i o i) ⟨fun z => absurd z (dq_f.mp q22), fun z => ⟨z.1, fun j hj => z.2 j (by omega)⟩⟩]
            exact J80 () trivial
          · refine AW.run X M_isSamples_d 23 4 rfl ?_
            have hP := dq_t.mp q22
            have hk : k < i := clt q20
            rw [show Int32.ofInt 5 * nI k = nI (5 * k) from pk_mul 5 k]
            refine AW.callV (As := [.int (nI (5 * k))]) X (M_isPair_m S M tl (5 * k) (by have := hP.1; omega)) cb_M_125 rfl rfl M_isPair_im M_isPair_se rfl ⟨Nat.le_of_ble_eq_true rfl, Nat.le_of_ble_eq_true rfl⟩ (Nat.le_of_ble_eq_true rfl) ⟨Nat.le_of_ble_eq_true rfl, Nat.le_of_ble_eq_true rfl⟩ (M_isSamples_d.d 27 rfl) (fun v h' q => ?_)
            obtain ⟨rfl, rfl⟩ := q
            have J73 : ∀ (z : Int32), z = bI (dc (tp_S1 (M.2.1 1) n i o (k + 1))) → AW p l e (ax_R 1 0 0) s m args below meth c VV G 6 (x_hM S M tl) 0 0 (MQ below (ax_Q VV G (fun v h' => v = some (.int (bI (dc (tp_S2 (M.2.1 1) n i o o)))) ∧ h' = x_hM S M tl)) args s 0 0 (fun q => G.bs ≤ q)) 73 [(4, .int (nI k)), (3, .int (bI (dc (tp_S1 (M.2.1 1) n i o k)))), (0, .ref 111), (1, .int (nI i)), (2, .int (nI o))] [.int z] := by
              intro z hz
              subst hz
              refine AW.run X M_isSamples_d 45 2 rfl ?_
              refine AW.goto X (M_isSamples_d.d 47 rfl) ?_
              rw [nI_o1]
              exact ih (k + 1) (by omega) (by omega)
            refine AW.if_eq X (M_isSamples_d.d 28 rfl) (fun q28 => ?_) (fun q28 => ?_)
            · refine AW.run X M_isSamples_d 44 1 rfl ?_
              exact J73 _ (wd_f (fun z => dq_f.mp q28 (z.2 k (by omega)).1))
            · refine AW.run X M_isSamples_d 29 7 rfl ?_
              refine AW.ml1 (j := 5 * k + 2) X (by rw [show Int32.ofInt 5 * nI k = nI (5 * k) from pk_mul 5 k]; exact nI_add (5 * k) 2) (by omega) (M_isSamples_d.d 36 rfl) ?_
              refine AW.run X M_isSamples_d 37 3 rfl ?_
              rw [i_l, show Int64.ofNat ((1 : Fin 2) : Nat) = lZ 1 from by decide, show (64 : Int64) = lZ 64 from by decide]
              refine AW.callS (As := [.long (lZ ((M.2.1 1) (5 * k + 2)).toInt), .long (lZ 1), .long (lZ 64)]) X (M_isIn_m ((M.2.1 1) (5 * k + 2)).toInt 1 64 (zL_of_i _) ⟨by decide, by decide⟩ ⟨by decide, by decide⟩) cb_M_92 M_isIn_st rfl ⟨Nat.le_of_ble_eq_true rfl, Nat.le_of_ble_eq_true rfl⟩ (Nat.le_of_ble_eq_true rfl) ⟨Nat.le_of_ble_eq_true rfl, Nat.le_of_ble_eq_true rfl⟩ (M_isSamples_d.d 40 rfl) (fun v h' q => ?_)
              obtain ⟨rfl, rfl⟩ := q
              rw [dc_dec]
              refine AW.if_eq X (M_isSamples_d.d 41 rfl) (fun q41 => ?_) (fun q41 => ?_)
              · refine AW.run X M_isSamples_d 44 1 rfl ?_
                exact J73 _ (wd_f (fun z => dq_f.mp q41 (z.2 k (by omega)).2))
              · refine AW.run X M_isSamples_d 42 1 rfl ?_
                refine AW.goto X (M_isSamples_d.d 43 rfl) ?_
                exact J73 _ (wd_t ⟨hP.1, fun j hj => by
                  by_cases e1 : j = k
                  · rw [e1]; exact ⟨dq_t.mp q28, dq_t.mp q41⟩
                  · exact hP.2 j (by omega)⟩)
    exact L25 (i + 1) 0 (by omega) (by omega)
  refine AW.icmp_ne X (M_isSamples_d.d 11 rfl) (fun q11 => ?_) (fun q11 => ?_)
  · refine AW.run X M_isSamples_d 14 1 rfl ?_
    exact J21 _ (wd_f (fun z => q11 (by rw [hc, z.1, e0])))
  · refine AW.run X M_isSamples_d 12 1 rfl ?_
    refine AW.goto X (M_isSamples_d.d 13 rfl) ?_
    exact J21 _ (wd_t ⟨ceq q11 hc e0 (by omega) (by omega), fun j hj => absurd hj (by omega)⟩)

