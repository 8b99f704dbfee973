/-! the class: is the telling the one said? small methods -/
theorem ii_lt {x : Int32} {a : Int} (h : zI a) : x < iZ a ↔ x.toInt < a := by rw [Int32.lt_iff_toInt_lt, iZ_t h]
theorem ii_gt {x : Int32} {a : Int} (h : zI a) : iZ a < x ↔ a < x.toInt := by rw [Int32.lt_iff_toInt_lt, iZ_t h]
theorem ii_le {x : Int32} {a : Int} (h : zI a) : x ≤ iZ a ↔ x.toInt ≤ a := by rw [Int32.le_iff_toInt_le, iZ_t h]
theorem ii_ge {x : Int32} {a : Int} (h : zI a) : iZ a ≤ x ↔ a ≤ x.toInt := by rw [Int32.le_iff_toInt_le, iZ_t h]
theorem sb_c (x : Int32) : (x.toInt < 1 ∨ 16 < x.toInt) ∨ x = 1 ∨ x = 2 ∨ x = 3 ∨ x = 4 ∨ x = 5 ∨ x = 6 ∨ x = 7 ∨ x = 8 ∨ x = 9 ∨ x = 10 ∨ x = 11 ∨ x = 12 ∨ x = 13 ∨ x = 14 ∨ x = 15 ∨ x = 16 := by
  have h : (x.toInt < 1 ∨ 16 < x.toInt) ∨ x.toInt = 1 ∨ x.toInt = 2 ∨ x.toInt = 3 ∨ x.toInt = 4 ∨ x.toInt = 5 ∨ x.toInt = 6 ∨ x.toInt = 7 ∨ x.toInt = 8 ∨ x.toInt = 9 ∨ x.toInt = 10 ∨ x.toInt = 11 ∨ x.toInt = 12 ∨ x.toInt = 13 ∨ x.toInt = 14 ∨ x.toInt = 15 ∨ x.toInt = 16 := by omega
  have e : ∀ {a : Int32}, x.toInt = a.toInt → x = a := fun h => Int32.toInt_inj.mp h
  rcases h with h | h | h | h | h | h | h | h | h | h | h | h | h | h | h | h | h
  · exact Or.inl h
  · exact Or.inr (Or.inl (e (a := 1) h))
  · exact Or.inr (Or.inr (Or.inl (e (a := 2) h)))
  · exact Or.inr (Or.inr (Or.inr (Or.inl (e (a := 3) h))))
  · exact Or.inr (Or.inr (Or.inr (Or.inr (Or.inl (e (a := 4) h)))))
  · exact Or.inr (Or.inr (Or.inr (Or.inr (Or.inr (Or.inl (e (a := 5) h))))))
  · exact Or.inr (Or.inr (Or.inr (Or.inr (Or.inr (Or.inr (Or.inl (e (a := 6) h)))))))
  · exact Or.inr (Or.inr (Or.inr (Or.inr (Or.inr (Or.inr (Or.inr (Or.inl (e (a := 7) h))))))))
  · exact Or.inr (Or.inr (Or.inr (Or.inr (Or.inr (Or.inr (Or.inr (Or.inr (Or.inl (e (a := 8) h)))))))))
  · exact Or.inr (Or.inr (Or.inr (Or.inr (Or.inr (Or.inr (Or.inr (Or.inr (Or.inr (Or.inl (e (a := 9) h))))))))))
  · exact Or.inr (Or.inr (Or.inr (Or.inr (Or.inr (Or.inr (Or.inr (Or.inr (Or.inr (Or.inr (Or.inl (e (a := 10) h)))))))))))
  · exact Or.inr (Or.inr (Or.inr (Or.inr (Or.inr (Or.inr (Or.inr (Or.inr (Or.inr (Or.inr (Or.inr (Or.inl (e (a := 11) h))))))))))))
  · exact Or.inr (Or.inr (Or.inr (Or.inr (Or.inr (Or.inr (Or.inr (Or.inr (Or.inr (Or.inr (Or.inr (Or.inr (Or.inl (e (a := 12) h)))))))))))))
  · exact Or.inr (Or.inr (Or.inr (Or.inr (Or.inr (Or.inr (Or.inr (Or.inr (Or.inr (Or.inr (Or.inr (Or.inr (Or.inr (Or.inl (e (a := 13) h))))))))))))))
  · exact Or.inr (Or.inr (Or.inr (Or.inr (Or.inr (Or.inr (Or.inr (Or.inr (Or.inr (Or.inr (Or.inr (Or.inr (Or.inr (Or.inr (Or.inl (e (a := 14) h)))))))))))))))
  · exact Or.inr (Or.inr (Or.inr (Or.inr (Or.inr (Or.inr (Or.inr (Or.inr (Or.inr (Or.inr (Or.inr (Or.inr (Or.inr (Or.inr (Or.inr (Or.inl (e (a := 15) h))))))))))))))))
  · exact Or.inr (Or.inr (Or.inr (Or.inr (Or.inr (Or.inr (Or.inr (Or.inr (Or.inr (Or.inr (Or.inr (Or.inr (Or.inr (Or.inr (Or.inr (Or.inr ((e (a := 16) h)))))))))))))))))

set_option maxHeartbeats 4000000 in
set_option maxRecDepth 100000 in
theorem T_isPair_m {l : Launch} {G : ax_G} (S : x_S) (tl : List va_E) (a : Nat) (ha : a + 1 < 96) :
    AM l VV G T_isPair_y T_isPair_c 2 (some .boolean) 0 0 0 [.ref 134, .int (nI a)] (x_hC S tl) (fun v h' => v = some (.int (bI (dc (tp_p (S.2.1 1) a)))) ∧ h' = x_hC S tl) := by
  refine AM.of (pl := pl_T) (by decide) v_good fl_T_ok kl_T_ok nofun (Nat.le_of_ble_eq_true rfl) ?_
  intro p e s m args below meth c X
  refine AW.run X T_isPair_d 0 3 rfl ?_
  refine AW.cl1 (j := a) X rfl (show a < 96 by omega) (T_isPair_d.d 3 rfl) ?_
  refine AW.run X T_isPair_d 4 5 rfl ?_
  refine AW.cl1 (j := a + 1) X (nI_o1 a) ha (T_isPair_d.d 9 rfl) ?_
  refine AW.icmp_gt X (T_isPair_d.d 10 rfl) (fun q10 => ?_) (fun q10 => ?_)
  · refine AW.run X T_isPair_d 13 1 rfl ?_
    exact AW.zret X n_0 (T_isPair_d.d 14 rfl) (Nat.le_of_ble_eq_true rfl) (Nat.le_of_ble_eq_true rfl) ⟨vd_f (k2_nle q10), rfl⟩
  · refine AW.run X T_isPair_d 11 1 rfl ?_
    refine AW.goto X (T_isPair_d.d 12 rfl) ?_
    exact AW.zret X n_1 (T_isPair_d.d 14 rfl) (Nat.le_of_ble_eq_true rfl) (Nat.le_of_ble_eq_true rfl) ⟨vd_t (k2_le q10), rfl⟩

set_option maxHeartbeats 4000000 in
set_option maxRecDepth 100000 in
theorem T_isOneOf_m {l : Launch} {G : ax_G} (S : x_S) (tl : List va_E) (a : Nat) (lo hi : Int) (ha : a < 96) (hlo : zI lo) (hhi : zI hi) :
    AM l VV G T_isOneOf_y T_isOneOf_c 4 (some .boolean) 0 0 0 [.ref 134, .int (nI a), .int (iZ lo), .int (iZ hi)] (x_hC S tl) (fun v h' => v = some (.int (bI (dc (tp_i ((S.2.1 1) a) lo hi)))) ∧ h' = x_hC S tl) := by
  refine AM.of (pl := pl_T) (by decide) v_good fl_T_ok kl_T_ok nofun (Nat.le_of_ble_eq_true rfl) ?_
  intro p e s m args below meth c X
  refine AW.run X T_isOneOf_d 0 3 rfl ?_
  refine AW.cl1 (j := a) X rfl ha (T_isOneOf_d.d 3 rfl) ?_
  refine AW.run X T_isOneOf_d 4 1 rfl ?_
  refine AW.icmp_lt X (T_isOneOf_d.d 5 rfl) (fun q5 => ?_) (fun q5 => ?_)
  · refine AW.run X T_isOneOf_d 14 1 rfl ?_
    exact AW.zret X n_0 (T_isOneOf_d.d 15 rfl) (Nat.le_of_ble_eq_true rfl) (Nat.le_of_ble_eq_true rfl) ⟨vd_f (fun z => by have := (ii_lt hlo).mp q5; have := z.1; omega), rfl⟩
  · refine AW.run X T_isOneOf_d 6 3 rfl ?_
    refine AW.cl1 (j := a) X rfl ha (T_isOneOf_d.d 9 rfl) ?_
    refine AW.run X T_isOneOf_d 10 1 rfl ?_
    refine AW.icmp_gt X (T_isOneOf_d.d 11 rfl) (fun q11 => ?_) (fun q11 => ?_)
    · refine AW.run X T_isOneOf_d 14 1 rfl ?_
      exact AW.zret X n_0 (T_isOneOf_d.d 15 rfl) (Nat.le_of_ble_eq_true rfl) (Nat.le_of_ble_eq_true rfl) ⟨vd_f (fun z => by have := (ii_gt hhi).mp q11; have := z.2; omega), rfl⟩
    · refine AW.run X T_isOneOf_d 12 1 rfl ?_
      refine AW.goto X (T_isOneOf_d.d 13 rfl) ?_
      exact AW.zret X n_1 (T_isOneOf_d.d 15 rfl) (Nat.le_of_ble_eq_true rfl) (Nat.le_of_ble_eq_true rfl) ⟨vd_t ⟨Int.not_lt.mp (fun z => q5 ((ii_lt hlo).mpr z)), Int.not_lt.mp (fun z => q11 ((ii_gt hhi).mpr z))⟩, rfl⟩

set_option maxHeartbeats 4000000 in
set_option maxRecDepth 100000 in
theorem T_isSampleBits_m {l : Launch} {G : ax_G} {h : List va_E} (x : Int32) :
    AM l VV G T_isSampleBits_y T_isSampleBits_c 1 (some .boolean) 0 0 0 [.int x] (h) (fun v h' => v = some (.int (bI (dc (tp_b x)))) ∧ h' = h) := by
  refine AM.of (pl := pl_T) (by decide) v_good fl_T_ok kl_T_ok nofun (Nat.le_of_ble_eq_true rfl) ?_
  intro p e s m args below meth c X
  refine AW.run X T_isSampleBits_d 0 1 rfl ?_
  rcases sb_c x with z | z | z | z | z | z | z | z | z | z | z | z | z | z | z | z | z
  · refine AW.tableOut X (T_isSampleBits_d.d 1 rfl) z ?_
    refine AW.run X T_isSampleBits_d 4 1 rfl ?_
    exact AW.zret X n_0 (T_isSampleBits_d.d 5 rfl) (Nat.le_of_ble_eq_true rfl) (Nat.le_of_ble_eq_true rfl) ⟨vd_f (by rintro (e | e | e | e | e | e) <;> rw [e] at z <;> exact absurd z (by decide)), rfl⟩
  · subst z
    refine AW.tableIn X (T_isSampleBits_d.d 1 rfl) (by decide) (by decide) (off := 79) (by decide) ?_
    refine AW.run X T_isSampleBits_d 2 1 rfl ?_
    exact AW.zret X n_1 (T_isSampleBits_d.d 3 rfl) (Nat.le_of_ble_eq_true rfl) (Nat.le_of_ble_eq_true rfl) ⟨vd_t (by unfold tp_b; decide), rfl⟩
  · subst z
    refine AW.tableIn X (T_isSampleBits_d.d 1 rfl) (by decide) (by decide) (off := 79) (by decide) ?_
    refine AW.run X T_isSampleBits_d 2 1 rfl ?_
    exact AW.zret X n_1 (T_isSampleBits_d.d 3 rfl) (Nat.le_of_ble_eq_true rfl) (Nat.le_of_ble_eq_true rfl) ⟨vd_t (by unfold tp_b; decide), rfl⟩
  · subst z
    refine AW.tableIn X (T_isSampleBits_d.d 1 rfl) (by decide) (by decide) (off := 81) (by decide) ?_
    refine AW.run X T_isSampleBits_d 4 1 rfl ?_
    exact AW.zret X n_0 (T_isSampleBits_d.d 5 rfl) (Nat.le_of_ble_eq_true rfl) (Nat.le_of_ble_eq_true rfl) ⟨vd_f (by unfold tp_b; decide), rfl⟩
  · subst z
    refine AW.tableIn X (T_isSampleBits_d.d 1 rfl) (by decide) (by decide) (off := 79) (by decide) ?_
    refine AW.run X T_isSampleBits_d 2 1 rfl ?_
    exact AW.zret X n_1 (T_isSampleBits_d.d 3 rfl) (Nat.le_of_ble_eq_true rfl) (Nat.le_of_ble_eq_true rfl) ⟨vd_t (by unfold tp_b; decide), rfl⟩
  · subst z
    refine AW.tableIn X (T_isSampleBits_d.d 1 rfl) (by decide) (by decide) (off := 81) (by decide) ?_
    refine AW.run X T_isSampleBits_d 4 1 rfl ?_
    exact AW.zret X n_0 (T_isSampleBits_d.d 5 rfl) (Nat.le_of_ble_eq_true rfl) (Nat.le_of_ble_eq_true rfl) ⟨vd_f (by unfold tp_b; decide), rfl⟩
  · subst z
    refine AW.tableIn X (T_isSampleBits_d.d 1 rfl) (by decide) (by decide) (off := 81) (by decide) ?_
    refine AW.run X T_isSampleBits_d 4 1 rfl ?_
    exact AW.zret X n_0 (T_isSampleBits_d.d 5 rfl) (Nat.le_of_ble_eq_true rfl) (Nat.le_of_ble_eq_true rfl) ⟨vd_f (by unfold tp_b; decide), rfl⟩
  · subst z
    refine AW.tableIn X (T_isSampleBits_d.d 1 rfl) (by decide) (by decide) (off := 81) (by decide) ?_
    refine AW.run X T_isSampleBits_d 4 1 rfl ?_
    exact AW.zret X n_0 (T_isSampleBits_d.d 5 rfl) (Nat.le_of_ble_eq_true rfl) (Nat.le_of_ble_eq_true rfl) ⟨vd_f (by unfold tp_b; decide), rfl⟩
  · subst z
    refine AW.tableIn X (T_isSampleBits_d.d 1 rfl) (by decide) (by decide) (off := 79) (by decide) ?_
    refine AW.run X T_isSampleBits_d 2 1 rfl ?_
    exact AW.zret X n_1 (T_isSampleBits_d.d 3 rfl) (Nat.le_of_ble_eq_true rfl) (Nat.le_of_ble_eq_true rfl) ⟨vd_t (by unfold tp_b; decide), rfl⟩
  · subst z
    refine AW.tableIn X (T_isSampleBits_d.d 1 rfl) (by decide) (by decide) (off := 81) (by decide) ?_
    refine AW.run X T_isSampleBits_d 4 1 rfl ?_
    exact AW.zret X n_0 (T_isSampleBits_d.d 5 rfl) (Nat.le_of_ble_eq_true rfl) (Nat.le_of_ble_eq_true rfl) ⟨vd_f (by unfold tp_b; decide), rfl⟩
  · subst z
    refine AW.tableIn X (T_isSampleBits_d.d 1 rfl) (by decide) (by decide) (off := 81) (by decide) ?_
    refine AW.run X T_isSampleBits_d 4 1 rfl ?_
    exact AW.zret X n_0 (T_isSampleBits_d.d 5 rfl) (Nat.le_of_ble_eq_true rfl) (Nat.le_of_ble_eq_true rfl) ⟨vd_f (by unfold tp_b; decide), rfl⟩
  · subst z
    refine AW.tableIn X (T_isSampleBits_d.d 1 rfl) (by decide) (by decide) (off := 81) (by decide) ?_
    refine AW.run X T_isSampleBits_d 4 1 rfl ?_
    exact AW.zret X n_0 (T_isSampleBits_d.d 5 rfl) (Nat.le_of_ble_eq_true rfl) (Nat.le_of_ble_eq_true rfl) ⟨vd_f (by unfold tp_b; decide), rfl⟩
  · subst z
    refine AW.tableIn X (T_isSampleBits_d.d 1 rfl) (by decide) (by decide) (off := 79) (by decide) ?_
    refine AW.run X T_isSampleBits_d 2 1 rfl ?_
    exact AW.zret X n_1 (T_isSampleBits_d.d 3 rfl) (Nat.le_of_ble_eq_true rfl) (Nat.le_of_ble_eq_true rfl) ⟨vd_t (by unfold tp_b; decide), rfl⟩
  · subst z
    refine AW.tableIn X (T_isSampleBits_d.d 1 rfl) (by decide) (by decide) (off := 81) (by decide) ?_
    refine AW.run X T_isSampleBits_d 4 1 rfl ?_
    exact AW.zret X n_0 (T_isSampleBits_d.d 5 rfl) (Nat.le_of_ble_eq_true rfl) (Nat.le_of_ble_eq_true rfl) ⟨vd_f (by unfold tp_b; decide), rfl⟩
  · subst z
    refine AW.tableIn X (T_isSampleBits_d.d 1 rfl) (by decide) (by decide) (off := 81) (by decide) ?_
    refine AW.run X T_isSampleBits_d 4 1 rfl ?_
    exact AW.zret X n_0 (T_isSampleBits_d.d 5 rfl) (Nat.le_of_ble_eq_true rfl) (Nat.le_of_ble_eq_true rfl) ⟨vd_f (by unfold tp_b; decide), rfl⟩
  · subst z
    refine AW.tableIn X (T_isSampleBits_d.d 1 rfl) (by decide) (by decide) (off := 81) (by decide) ?_
    refine AW.run X T_isSampleBits_d 4 1 rfl ?_
    exact AW.zret X n_0 (T_isSampleBits_d.d 5 rfl) (Nat.le_of_ble_eq_true rfl) (Nat.le_of_ble_eq_true rfl) ⟨vd_f (by unfold tp_b; decide), rfl⟩
  · subst z
    refine AW.tableIn X (T_isSampleBits_d.d 1 rfl) (by decide) (by decide) (off := 79) (by decide) ?_
    refine AW.run X T_isSampleBits_d 2 1 rfl ?_
    exact AW.zret X n_1 (T_isSampleBits_d.d 3 rfl) (Nat.le_of_ble_eq_true rfl) (Nat.le_of_ble_eq_true rfl) ⟨vd_t (by unfold tp_b; decide), rfl⟩

set_option maxHeartbeats 4000000 in
set_option maxRecDepth 100000 in
theorem T_saysSamples_m {l : Launch} {G : ax_G} (S : x_S) (tl : List va_E) (i o n : Nat) (hi : 1 ≤ i ∧ i ≤ 3) (ho : 1 ≤ o ∧ o ≤ 4) (hc : S.1 2 = nI n) (hn : n ≤ 96) :
    AM l VV G T_saysSamples_y T_saysSamples_c 6 (some .boolean) 1 0 0 [.ref 134, .int (nI i), .int (nI o)] (x_hC S tl) (fun v h' => v = some (.int (bI (dc (tp_S2 (S.2.1 1) n i o o)))) ∧ h' = x_hC S tl) := by
  refine AM.of (pl := pl_T) (by decide) v_good fl_T_ok kl_T_ok nofun (Nat.le_of_ble_eq_true rfl) ?_
  intro p e s m args below meth c X
  have e0 : Int32.ofInt 5 * nI i + Int32.ofInt 1 + Int32.ofInt 4 * nI o = nI (5 * i + 1 + 4 * o) := by rw [show Int32.ofInt 5 * nI i = nI (5 * i) from pk_mul 5 i, nI_o1, show Int32.ofInt 4 * nI o = nI (4 * o) from pk_mul 4 o, nI_add]
  refine AW.run X T_saysSamples_d 0 13 rfl ?_
  refine AW.icmp_ne X (T_saysSamples_d.d 13 rfl) (fun q13 => ?_) (fun q13 => ?_)
  · refine AW.run X T_saysSamples_d 20 1 rfl ?_
    exact AW.zret X n_0 (T_saysSamples_d.d 21 rfl) (Nat.le_of_ble_eq_true rfl) (Nat.le_of_ble_eq_true rfl) ⟨vd_f (fun z => q13 (by rw [hc, z.1.1, e0])), rfl⟩
  · have hn9 : n = 5 * i + 1 + 4 * o := ceq q13 hc e0 (by omega) (by omega)
    refine AW.run X T_saysSamples_d 14 3 rfl ?_
    refine AW.cl1 (j := 5 * i) X (pk_mul 5 i) (by omega) (T_saysSamples_d.d 17 rfl) ?_
    refine AW.callS (As := [.int (S.2.1 1 (5 * i))]) X (T_isSampleBits_m _) cb_T_19 T_isSampleBits_st rfl ⟨Nat.le_of_ble_eq_true rfl, Nat.le_of_ble_eq_true rfl⟩ (Nat.le_of_ble_eq_true rfl) ⟨Nat.le_of_ble_eq_true rfl, Nat.le_of_ble_eq_true rfl⟩ (T_saysSamples_d.d 18 rfl) (fun v h' q => ?_)
    obtain ⟨rfl, rfl⟩ := q
    refine AW.if_ne X (T_saysSamples_d.d 19 rfl) (fun q19 => ?_) (fun q19 => ?_)
    · have hb := dq_t.mp q19
      refine AW.run X T_saysSamples_d 22 2 rfl ?_
      have L35 : ∀ (t k : Nat), k ≤ i → i - k < t → (∀ j, j < k → tp_p (S.2.1 1) (5 * j) ∧ tp_i ((S.2.1 1) (5 * j + 2)) 1 64) → AW p l e (ax_R 1 0 0) s m args below meth c VV G 6 (x_hC S tl) 0 0 (MQ below (ax_Q VV G (fun v h' => v = some (.int (bI (dc (tp_S2 (S.2.1 1) n i o o)))) ∧ h' = x_hC S tl)) args s 0 0 (fun q => G.bs ≤ q)) 35 [(4, .int (nI k)), (3, .int (nI (5 * i))), (0, .ref 134), (1, .int (nI i)), (2, .int (nI o))] [] := by
        intro t
        induction t with
        | zero => intro k h1 h2; exact absurd h2 (by omega)
        | succ t ih =>
          intro k h1 h2 h3
          refine AW.run X T_saysSamples_d 24 2 rfl ?_
          refine AW.icmp_ge X (T_saysSamples_d.d 26 rfl) (fun q26 => ?_) (fun q26 => ?_)
          · refine AW.run X T_saysSamples_d 47 2 rfl ?_
            have L81 : ∀ (t k : Nat), k ≤ o → o - k < t → (∀ j, j < k → tp_p (S.2.1 1) (5 * i + 1 + 4 * j)) → AW p l e (ax_R 1 0 0) s m args below meth c VV G 6 (x_hC S tl) 0 0 (MQ below (ax_Q VV G (fun v h' => v = some (.int (bI (dc (tp_S2 (S.2.1 1) n i o o)))) ∧ h' = x_hC S tl)) args s 0 0 (fun q => G.bs ≤ q)) 81 [(4, .int (nI k)), (3, .int (nI (5 * i))), (0, .ref 134), (1, .int (nI i)), (2, .int (nI o))] [] := by
              have g3 : ∀ j, j < i → tp_p (S.2.1 1) (5 * j) ∧ tp_i ((S.2.1 1) (5 * j + 2)) 1 64 := fun j hj => h3 j (by have := cge q26; omega)
              intro t
              induction t with
              | zero => intro k h1 h2; exact absurd h2 (by omega)
              | succ t ih =>
                intro k h1 h2 h3
                refine AW.run X T_saysSamples_d 49 2 rfl ?_
                refine AW.icmp_ge X (T_saysSamples_d.d 51 rfl) (fun q51 => ?_) (fun q51 => ?_)
                · refine AW.run X T_saysSamples_d 66 1 rfl ?_
                  exact AW.zret X n_1 (T_saysSamples_d.d 67 rfl) (Nat.le_of_ble_eq_true rfl) (Nat.le_of_ble_eq_true rfl) ⟨vd_t ⟨⟨hn9, g3⟩, hb, fun j hj => h3 j (by have := cge q51; omega)⟩, rfl⟩
                · have hk : k < o := clt q51
                  refine AW.run X T_saysSamples_d 52 8 rfl ?_
                  rw [nI_o1, show Int32.ofInt 4 * nI k = nI (4 * k) from pk_mul 4 k, nI_add]
                  refine AW.callV (As := [.int (nI (5 * i + 1 + 4 * k))]) X (T_isPair_m S tl (5 * i + 1 + 4 * k) (by omega)) cb_T_23 rfl rfl T_isPair_im T_isPair_se rfl ⟨Nat.le_of_ble_eq_true rfl, Nat.le_of_ble_eq_true rfl⟩ (Nat.le_of_ble_eq_true rfl) ⟨Nat.le_of_ble_eq_true rfl, Nat.le_of_ble_eq_true rfl⟩ (T_saysSamples_d.d 60 rfl) (fun v h' q => ?_)
                  obtain ⟨rfl, rfl⟩ := q
                  refine AW.if_ne X (T_saysSamples_d.d 61 rfl) (fun q61 => ?_) (fun q61 => ?_)
                  · refine AW.run X T_saysSamples_d 64 1 rfl ?_
                    refine AW.goto X (T_saysSamples_d.d 65 rfl) ?_
                    rw [nI_o1]
                    exact ih (k + 1) (by omega) (by omega) (fun j hj => by
                      by_cases e1 : j = k
                      · rw [e1]; exact dq_t.mp q61
                      · exact h3 j (by omega))
                  · refine AW.run X T_saysSamples_d 62 1 rfl ?_
                    exact AW.zret X n_0 (T_saysSamples_d.d 63 rfl) (Nat.le_of_ble_eq_true rfl) (Nat.le_of_ble_eq_true rfl) ⟨vd_f (fun z => dq_f.mp q61 (z.2.2 k hk)), rfl⟩
            exact L81 (o + 1) 0 (by omega) (by omega) (fun j hj => absurd hj (by omega))
          · have hk : k < i := clt q26
            refine AW.run X T_saysSamples_d 27 6 rfl ?_
            rw [show Int32.ofInt 5 * nI k = nI (5 * k) from pk_mul 5 k]
            refine AW.callV (As := [.int (nI (5 * k))]) X (T_isPair_m S tl (5 * k) (by omega)) cb_T_23 rfl rfl T_isPair_im T_isPair_se rfl ⟨Nat.le_of_ble_eq_true rfl, Nat.le_of_ble_eq_true rfl⟩ (Nat.le_of_ble_eq_true rfl) ⟨Nat.le_of_ble_eq_true rfl, Nat.le_of_ble_eq_true rfl⟩ (T_saysSamples_d.d 33 rfl) (fun v h' q => ?_)
            obtain ⟨rfl, rfl⟩ := q
            refine AW.if_eq X (T_saysSamples_d.d 34 rfl) (fun q34 => ?_) (fun q34 => ?_)
            · refine AW.run X T_saysSamples_d 43 1 rfl ?_
              exact AW.zret X n_0 (T_saysSamples_d.d 44 rfl) (Nat.le_of_ble_eq_true rfl) (Nat.le_of_ble_eq_true rfl) ⟨vd_f (fun z => dq_f.mp q34 (z.1.2 k hk).1), rfl⟩
            · refine AW.run X T_saysSamples_d 35 6 rfl ?_
              rw [show nI (5 * k) + Int32.ofInt 2 = nI (5 * k + 2) from nI_add (5 * k) 2]
              refine AW.callV (As := [.int (nI (5 * k + 2)), .int (iZ 1), .int (iZ 64)]) X (T_isOneOf_m S tl (5 * k + 2) 1 64 (by omega) ⟨by decide, by decide⟩ ⟨by decide, by decide⟩) cb_T_26 rfl rfl T_isOneOf_im T_isOneOf_se rfl ⟨Nat.le_of_ble_eq_true rfl, Nat.le_of_ble_eq_true rfl⟩ (Nat.le_of_ble_eq_true rfl) ⟨Nat.le_of_ble_eq_true rfl, Nat.le_of_ble_eq_true rfl⟩ (T_saysSamples_d.d 41 rfl) (fun v h' q => ?_)
              obtain ⟨rfl, rfl⟩ := q
              refine AW.if_ne X (T_saysSamples_d.d 42 rfl) (fun q42 => ?_) (fun q42 => ?_)
              · refine AW.run X T_saysSamples_d 45 1 rfl ?_
                refine AW.goto X (T_saysSamples_d.d 46 rfl) ?_
                refine AW.pk [0, 2, 3, 4, 5] rfl ?_
                rw [nI_o1]
                exact ih (k + 1) (by omega) (by omega) (fun j hj => by
                  by_cases e1 : j = k
                  · rw [e1]; exact ⟨dq_t.mp q34, dq_t.mp q42⟩
                  · exact h3 j (by omega))
              · refine AW.run X T_saysSamples_d 43 1 rfl ?_
                exact AW.zret X n_0 (T_saysSamples_d.d 44 rfl) (Nat.le_of_ble_eq_true rfl) (Nat.le_of_ble_eq_true rfl) ⟨vd_f (fun z => dq_f.mp q42 (z.1.2 k hk).2), rfl⟩
      rw [show Int32.ofInt 5 * nI i = nI (5 * i) from pk_mul 5 i]
      exact L35 (i + 1) 0 (by omega) (by omega) (fun j hj => absurd hj (by omega))
    · refine AW.run X T_saysSamples_d 20 1 rfl ?_
      exact AW.zret X n_0 (T_saysSamples_d.d 21 rfl) (Nat.le_of_ble_eq_true rfl) (Nat.le_of_ble_eq_true rfl) ⟨vd_f (fun z => dq_f.mp q19 z.2.1), rfl⟩

set_option maxHeartbeats 4000000 in
set_option maxRecDepth 100000 in
theorem T_saysPowers_m {l : Launch} {G : ax_G} (S : x_S) (tl : List va_E) (o n : Nat) (ho : o ≤ 4) (hc : S.1 2 = nI n) (hn : n ≤ 96) :
    AM l VV G T_saysPowers_y T_saysPowers_c 2 (some .boolean) 1 0 0 [.ref 134, .int (nI o)] (x_hC S tl) (fun v h' => v = some (.int (bI (dc (tp_W (S.2.1 1) n o)))) ∧ h' = x_hC S tl) := by
  refine AM.of (pl := pl_T) (by decide) v_good fl_T_ok kl_T_ok nofun (Nat.le_of_ble_eq_true rfl) ?_
  intro p e s m args below meth c X
  refine AW.run X T_saysPowers_d 0 7 rfl ?_
  refine AW.icmp_ne X (T_saysPowers_d.d 7 rfl) (fun q7 => ?_) (fun q7 => ?_)
  · refine AW.run X T_saysPowers_d 20 1 rfl ?_
    exact AW.zret X n_0 (T_saysPowers_d.d 21 rfl) (Nat.le_of_ble_eq_true rfl) (Nat.le_of_ble_eq_true rfl) ⟨vd_f (fun z => q7 (by rw [hc, z.1, show Int32.ofInt 2 * nI o = nI (2 * o) from pk_mul 2 o]; exact (nI_add 3 (2 * o)).symm)), rfl⟩
  · have hn3 : n = 3 + 2 * o := ceq q7 hc (by rw [show Int32.ofInt 2 * nI o = nI (2 * o) from pk_mul 2 o]; exact nI_add 3 (2 * o)) (by omega) (by omega)
    refine AW.run X T_saysPowers_d 8 2 rfl ?_
    refine AW.callV (As := [.int (nI 0)]) X (T_isPair_m S tl 0 (by decide)) cb_T_23 rfl rfl T_isPair_im T_isPair_se rfl ⟨Nat.le_of_ble_eq_true rfl, Nat.le_of_ble_eq_true rfl⟩ (Nat.le_of_ble_eq_true rfl) ⟨Nat.le_of_ble_eq_true rfl, Nat.le_of_ble_eq_true rfl⟩ (T_saysPowers_d.d 10 rfl) (fun v h' q => ?_)
    obtain ⟨rfl, rfl⟩ := q
    refine AW.if_eq X (T_saysPowers_d.d 11 rfl) (fun q11 => ?_) (fun q11 => ?_)
    · refine AW.run X T_saysPowers_d 20 1 rfl ?_
      exact AW.zret X n_0 (T_saysPowers_d.d 21 rfl) (Nat.le_of_ble_eq_true rfl) (Nat.le_of_ble_eq_true rfl) ⟨vd_f (fun z => dq_f.mp q11 z.2.1), rfl⟩
    · refine AW.run X T_saysPowers_d 12 4 rfl ?_
      refine AW.callV (As := [.int (nI 2), .int (iZ 0), .int (iZ 16)]) X (T_isOneOf_m S tl 2 0 16 (by decide) ⟨by decide, by decide⟩ ⟨by decide, by decide⟩) cb_T_26 rfl rfl T_isOneOf_im T_isOneOf_se rfl ⟨Nat.le_of_ble_eq_true rfl, Nat.le_of_ble_eq_true rfl⟩ (Nat.le_of_ble_eq_true rfl) ⟨Nat.le_of_ble_eq_true rfl, Nat.le_of_ble_eq_true rfl⟩ (T_saysPowers_d.d 16 rfl) (fun v h' q => ?_)
      obtain ⟨rfl, rfl⟩ := q
      refine AW.if_eq X (T_saysPowers_d.d 17 rfl) (fun q17 => ?_) (fun q17 => ?_)
      · refine AW.run X T_saysPowers_d 20 1 rfl ?_
        exact AW.zret X n_0 (T_saysPowers_d.d 21 rfl) (Nat.le_of_ble_eq_true rfl) (Nat.le_of_ble_eq_true rfl) ⟨vd_f (fun z => dq_f.mp q17 z.2.2), rfl⟩
      · refine AW.run X T_saysPowers_d 18 1 rfl ?_
        refine AW.goto X (T_saysPowers_d.d 19 rfl) ?_
        exact AW.zret X n_1 (T_saysPowers_d.d 21 rfl) (Nat.le_of_ble_eq_true rfl) (Nat.le_of_ble_eq_true rfl) ⟨vd_t ⟨hn3, dq_t.mp q11, dq_t.mp q17⟩, rfl⟩

set_option maxHeartbeats 4000000 in
set_option maxRecDepth 100000 in
theorem T_saysProgram_m {l : Launch} {G : ax_G} (S : x_S) (tl : List va_E) (i o n : Nat) (hi : 1 ≤ i ∧ i ≤ 4) (ho : 1 ≤ o ∧ o ≤ 4) (hc : S.1 2 = nI n) (hn : n ≤ 96) :
    AM l VV G T_saysProgram_y T_saysProgram_c 5 (some .boolean) 1 0 0 [.ref 134, .int (nI i), .int (nI o)] (x_hC S tl) (fun v h' => v = some (.int (bI (dc (tp_P (S.2.1 1) n (i + o) (i + o))))) ∧ h' = x_hC S tl) := by
  refine AM.of (pl := pl_T) (by decide) v_good fl_T_ok kl_T_ok nofun (Nat.le_of_ble_eq_true rfl) ?_
  intro p e s m args below meth c X
  have e0 : Int32.ofInt 2 * (nI i + nI o) = nI (2 * (i + o)) := by rw [nI_add]; exact pk_mul 2 (i + o)
  refine AW.run X T_saysProgram_d 0 9 rfl ?_
  refine AW.icmp_eq X (T_saysProgram_d.d 9 rfl) (fun q9 => ?_) (fun q9 => ?_)
  · have hn9 : n = 2 * (i + o) := ceq q9 hc e0 (by omega) (by omega)
    refine AW.run X T_saysProgram_d 12 2 rfl ?_
    have L19 : ∀ (t k : Nat), k ≤ i + o → i + o - k < t → (∀ j, j < k → tp_p (S.2.1 1) (2 * j)) → AW p l e (ax_R 1 0 0) s m args below meth c VV G 5 (x_hC S tl) 0 0 (MQ below (ax_Q VV G (fun v h' => v = some (.int (bI (dc (tp_P (S.2.1 1) n (i + o) (i + o))))) ∧ h' = x_hC S tl)) args s 0 0 (fun q => G.bs ≤ q)) 19 [(4, .int (nI k)), (3, .int (nI (i + o))), (0, .ref 134), (1, .int (nI i)), (2, .int (nI o))] [] := by
      intro t
      induction t with
      | zero => intro k h1 h2; exact absurd h2 (by omega)
      | succ t ih =>
        intro k h1 h2 h3
        refine AW.run X T_saysProgram_d 14 2 rfl ?_
        refine AW.icmp_ge X (T_saysProgram_d.d 16 rfl) (fun q16 => ?_) (fun q16 => ?_)
        · refine AW.run X T_saysProgram_d 27 1 rfl ?_
          exact AW.zret X n_1 (T_saysProgram_d.d 28 rfl) (Nat.le_of_ble_eq_true rfl) (Nat.le_of_ble_eq_true rfl) ⟨vd_t ⟨hn9, fun j hj => h3 j (by have := cge q16; omega)⟩, rfl⟩
        · have hk : k < i + o := clt q16
          refine AW.run X T_saysProgram_d 17 4 rfl ?_
          rw [show Int32.ofInt 2 * nI k = nI (2 * k) from pk_mul 2 k]
          refine AW.callV (As := [.int (nI (2 * k))]) X (T_isPair_m S tl (2 * k) (by omega)) cb_T_23 rfl rfl T_isPair_im T_isPair_se rfl ⟨Nat.le_of_ble_eq_true rfl, Nat.le_of_ble_eq_true rfl⟩ (Nat.le_of_ble_eq_true rfl) ⟨Nat.le_of_ble_eq_true rfl, Nat.le_of_ble_eq_true rfl⟩ (T_saysProgram_d.d 21 rfl) (fun v h' q => ?_)
          obtain ⟨rfl, rfl⟩ := q
          refine AW.if_ne X (T_saysProgram_d.d 22 rfl) (fun q22 => ?_) (fun q22 => ?_)
          · refine AW.run X T_saysProgram_d 25 1 rfl ?_
            refine AW.goto X (T_saysProgram_d.d 26 rfl) ?_
            rw [nI_o1]
            exact ih (k + 1) (by omega) (by omega) (fun j hj => by
              by_cases e1 : j = k
              · rw [e1]; exact dq_t.mp q22
              · exact h3 j (by omega))
          · refine AW.run X T_saysProgram_d 23 1 rfl ?_
            exact AW.zret X n_0 (T_saysProgram_d.d 24 rfl) (Nat.le_of_ble_eq_true rfl) (Nat.le_of_ble_eq_true rfl) ⟨vd_f (fun z => dq_f.mp q22 (z.2 k hk)), rfl⟩
    rw [nI_add]
    exact L19 (i + o + 1) 0 (by omega) (by omega) (fun j hj => absurd hj (by omega))
  · refine AW.run X T_saysProgram_d 10 1 rfl ?_
    exact AW.zret X n_0 (T_saysProgram_d.d 11 rfl) (Nat.le_of_ble_eq_true rfl) (Nat.le_of_ble_eq_true rfl) ⟨vd_f (fun z => q9 (by rw [hc, z.1, e0])), rfl⟩

def tp_B (f : Nat → Int32) (a k : Nat) : Prop := ∀ j, j < k → (if j = 0 then f 0 else f (a + j - 1)) < f (a + j) ∧ f (a + j) < f 1
set_option maxHeartbeats 4000000 in
set_option maxRecDepth 100000 in
theorem T_areBounds_m {l : Launch} {G : ax_G} (S : x_S) (tl : List va_E) (a m0 : Nat) (ha : a + m0 ≤ 96) :
    AM l VV G T_areBounds_y T_areBounds_c 6 (some .boolean) 0 0 0 [.ref 134, .int (nI a), .int (nI m0)] (x_hC S tl) (fun v h' => v = some (.int (bI (dc (tp_B (S.2.1 1) a m0)))) ∧ h' = x_hC S tl) := by
  refine AM.of (pl := pl_T) (by decide) v_good fl_T_ok kl_T_ok nofun (Nat.le_of_ble_eq_true rfl) ?_
  intro p e s m args below meth c X
  refine AW.run X T_areBounds_d 0 3 rfl ?_
  refine AW.cl1 (j := 0) X rfl (by decide) (T_areBounds_d.d 3 rfl) ?_
  refine AW.run X T_areBounds_d 4 3 rfl ?_
  have L10 : ∀ (t k : Nat), k ≤ m0 → m0 - k < t → tp_B (S.2.1 1) a k → AW p l e (ax_R 0 0 0) s m args below meth c VV G 6 (x_hC S tl) 0 0 (MQ below (ax_Q VV G (fun v h' => v = some (.int (bI (dc (tp_B (S.2.1 1) a m0)))) ∧ h' = x_hC S tl)) args s 0 0 (fun q => G.bs ≤ q)) 10 [(4, .int (nI k)), (3, .int (if k = 0 then (S.2.1 1) 0 else (S.2.1 1) (a + k - 1))), (0, .ref 134), (1, .int (nI a)), (2, .int (nI m0))] [] := by
    intro t
    induction t with
    | zero => intro k h1 h2; exact absurd h2 (by omega)
    | succ t ih =>
      intro k h1 h2 h3
      refine AW.run X T_areBounds_d 7 2 rfl ?_
      refine AW.icmp_ge X (T_areBounds_d.d 9 rfl) (fun q9 => ?_) (fun q9 => ?_)
      · refine AW.run X T_areBounds_d 32 1 rfl ?_
        exact AW.zret X n_1 (T_areBounds_d.d 33 rfl) (Nat.le_of_ble_eq_true rfl) (Nat.le_of_ble_eq_true rfl) ⟨vd_t (fun j hj => h3 j (by have := cge q9; omega)), rfl⟩
      · have hk : k < m0 := clt q9
        refine AW.run X T_areBounds_d 10 5 rfl ?_
        refine AW.cl1 (j := a + k) X (nI_add a k) (by omega) (T_areBounds_d.d 15 rfl) ?_
        refine AW.run X T_areBounds_d 16 3 rfl ?_
        refine AW.icmp_le X (T_areBounds_d.d 19 rfl) (fun q19 => ?_) (fun q19 => ?_)
        · refine AW.run X T_areBounds_d 26 1 rfl ?_
          exact AW.zret X n_0 (T_areBounds_d.d 27 rfl) (Nat.le_of_ble_eq_true rfl) (Nat.le_of_ble_eq_true rfl) ⟨vd_f (fun z => k2_nle (z k hk).1 q19), rfl⟩
        · refine AW.run X T_areBounds_d 20 4 rfl ?_
          refine AW.cl1 (j := 1) X rfl (by decide) (T_areBounds_d.d 24 rfl) ?_
          refine AW.icmp_lt X (T_areBounds_d.d 25 rfl) (fun q25 => ?_) (fun q25 => ?_)
          · refine AW.run X T_areBounds_d 28 3 rfl ?_
            refine AW.goto X (T_areBounds_d.d 31 rfl) ?_
            refine AW.pk [0, 1, 3, 4, 5] rfl ?_
            rw [nI_o1, show S.2.1 1 (a + k) = (if k + 1 = 0 then S.2.1 1 0 else S.2.1 1 (a + (k + 1) - 1)) from by rw [if_neg (by omega)]; rfl]
            exact ih (k + 1) (by omega) (by omega) (fun j hj => by
              by_cases e1 : j = k
              · rw [e1]; exact ⟨k2_lt q19, q25⟩
              · exact h3 j (by omega))
          · refine AW.run X T_areBounds_d 26 1 rfl ?_
            exact AW.zret X n_0 (T_areBounds_d.d 27 rfl) (Nat.le_of_ble_eq_true rfl) (Nat.le_of_ble_eq_true rfl) ⟨vd_f (fun z => q25 (z k hk).2), rfl⟩
  exact L10 (m0 + 1) 0 (by omega) (by omega) (fun j hj => absurd hj (by omega))

/-- a made function's object: its inputs, its outputs -/
def f_O (h : List va_E) (a : Nat) (x y : Int32) : Prop := ∃ (ci : Nat) (fs : List Value) (k1 k2 : Nat), h[a]? = some (.inr (ci, fs)) ∧ ax_al fl_T 38 ci = some k1 ∧ fs[k1]? = some (.int x) ∧ ax_al fl_T 43 ci = some k2 ∧ fs[k2]? = some (.int y) ∧ ax_al fl_N 136 ci = some k2
set_option maxHeartbeats 4000000 in
set_option maxRecDepth 100000 in
theorem T_isPart_m {l : Launch} {G : ax_G} {h : List va_E} (a : Nat) (x y z : Int32) (ho : f_O h a x y) :
    AM l VV G T_isPart_y T_isPart_c 2 (some .boolean) 0 0 0 [.ref a, .int z] (h) (fun v h' => v = some (.int (bI (dc (x = 1 ∧ y = z)))) ∧ h' = h) := by
  refine AM.of (pl := pl_T) (by decide) v_good fl_T_ok kl_T_ok nofun (Nat.le_of_ble_eq_true rfl) ?_
  intro p e s m args below meth c X
  obtain ⟨ci, fs, k1, k2, ha, e1, e2, e3, e4, -⟩ := ho
  refine AW.run X T_isPart_d 0 1 rfl ?_
  refine AW.ifnull X (T_isPart_d.d 1 rfl) ?_
  refine AW.run X T_isPart_d 2 1 rfl ?_
  refine AW.get X ha e1 e2 (T_isPart_d.d 3 rfl) ?_
  refine AW.run X T_isPart_d 4 1 rfl ?_
  refine AW.icmp_ne X (T_isPart_d.d 5 rfl) (fun q5 => ?_) (fun q5 => ?_)
  · refine AW.run X T_isPart_d 12 1 rfl ?_
    exact AW.zret X n_0 (T_isPart_d.d 13 rfl) (Nat.le_of_ble_eq_true rfl) (Nat.le_of_ble_eq_true rfl) ⟨vd_f (fun w => q5 w.1), rfl⟩
  · refine AW.run X T_isPart_d 6 1 rfl ?_
    refine AW.get X ha e3 e4 (T_isPart_d.d 7 rfl) ?_
    refine AW.run X T_isPart_d 8 1 rfl ?_
    refine AW.icmp_ne X (T_isPart_d.d 9 rfl) (fun q9 => ?_) (fun q9 => ?_)
    · refine AW.run X T_isPart_d 12 1 rfl ?_
      exact AW.zret X n_0 (T_isPart_d.d 13 rfl) (Nat.le_of_ble_eq_true rfl) (Nat.le_of_ble_eq_true rfl) ⟨vd_f (fun w => q9 w.2), rfl⟩
    · refine AW.run X T_isPart_d 10 1 rfl ?_
      refine AW.goto X (T_isPart_d.d 11 rfl) ?_
      exact AW.zret X n_1 (T_isPart_d.d 13 rfl) (Nat.le_of_ble_eq_true rfl) (Nat.le_of_ble_eq_true rfl) ⟨vd_t ⟨q5, q9⟩, rfl⟩

/-- the functions: m0 of them, each an object with inputs tk f, outputs gv f -/
def f_F (h : List va_E) (fn : Nat → Option Nat) (tk gv : Nat → Int32) (m0 : Nat) : Prop := ∀ f, f < m0 → ∃ a, fn f = some a ∧ f_O h a (tk f) (gv f)
theorem tp_Z4_B {f tk gv : Nat → Int32} {c m : Nat} {out : Int32} {K : Nat} (hK : 1 ≤ K) : tp_Z4 f tk gv c m out K (K - 1) ↔ tp_Z3 f tk gv c m out K K ∧ tp_B f (3 + K) (K - 1) := by
  unfold tp_Z4 tp_B
  constructor
  · rintro ⟨a, b⟩
    refine ⟨a, fun j hj => ?_⟩
    have := b j hj
    rw [show 3 + K + j - 1 = 2 + K + j by omega]
    exact this
  · rintro ⟨a, b⟩
    refine ⟨a, fun j hj => ?_⟩
    have := b j hj
    rw [show 3 + K + j - 1 = 2 + K + j by omega] at this
    exact this
theorem tp_K0 {f tk gv : Nat → Int32} {c m : Nat} {out : Int32} {K k : Nat} (h : ¬ tp_Z1 f c) : ¬ tp_Z4 f tk gv c m out K k := fun z => h z.1.1
set_option maxHeartbeats 4000000 in
set_option maxRecDepth 100000 in
theorem T_saysStitched_m {l : Launch} {G : ax_G} (S : x_S) (tl : List va_E) (o n m0 : Nat) (tk gv : Nat → Int32) (ho : o ≤ 4) (hc : S.1 2 = nI n) (hn : n ≤ 96) (hm0 : m0 ≤ 24) (hf : f_F (x_hC S tl) (S.2.2.1 0) tk gv m0) :
    AM l VV G T_saysStitched_y T_saysStitched_c 7 (some .boolean) 1 0 0 [.ref 134, .int (nI o), .ref 136, .int (nI m0)] (x_hC S tl) (fun v h' => ∃ K, tp_K (S.2.1 1) n K ∧ v = some (.int (bI (dc (tp_Z4 (S.2.1 1) tk gv n m0 (nI o) K (K - 1))))) ∧ h' = x_hC S tl) := by
  refine AM.of (pl := pl_T) (by decide) v_good fl_T_ok kl_T_ok nofun (Nat.le_of_ble_eq_true rfl) ?_
  intro p e s m args below meth c X
  obtain ⟨K, hK⟩ := tp_K_ex (S.2.1 1) n
  refine AW.run X T_saysStitched_d 0 3 rfl ?_
  refine AW.icmp_lt X (T_saysStitched_d.d 3 rfl) (fun q3 => ?_) (fun q3 => ?_)
  · refine AW.run X T_saysStitched_d 14 1 rfl ?_
    exact AW.zret X n_0 (T_saysStitched_d.d 15 rfl) (Nat.le_of_ble_eq_true rfl) (Nat.le_of_ble_eq_true rfl) ⟨K, hK, vd_f (tp_K0 (fun w => by have := w.1; have z := (nI_ltI (a := n) (b := 3) (by omega) (by decide)).mp (by rw [← hc]; exact q3); omega)), rfl⟩
  · have hn3 : 3 ≤ n := (nI_leI (a := 3) (b := n) (by decide) (by omega)).mp (by rw [← hc]; exact Int32.not_lt.mp q3)
    refine AW.run X T_saysStitched_d 4 2 rfl ?_
    refine AW.callV (As := [.int (nI 0)]) X (T_isPair_m S tl 0 (by decide)) cb_T_23 rfl rfl T_isPair_im T_isPair_se rfl ⟨Nat.le_of_ble_eq_true rfl, Nat.le_of_ble_eq_true rfl⟩ (Nat.le_of_ble_eq_true rfl) ⟨Nat.le_of_ble_eq_true rfl, Nat.le_of_ble_eq_true rfl⟩ (T_saysStitched_d.d 6 rfl) (fun v h' q => ?_)
    obtain ⟨rfl, rfl⟩ := q
    refine AW.if_eq X (T_saysStitched_d.d 7 rfl) (fun q7 => ?_) (fun q7 => ?_)
    · refine AW.run X T_saysStitched_d 14 1 rfl ?_
      exact AW.zret X n_0 (T_saysStitched_d.d 15 rfl) (Nat.le_of_ble_eq_true rfl) (Nat.le_of_ble_eq_true rfl) ⟨K, hK, vd_f (tp_K0 (fun w => dq_f.mp q7 w.2.1)), rfl⟩
    · refine AW.run X T_saysStitched_d 8 4 rfl ?_
      refine AW.callV (As := [.int (nI 2), .int (iZ 1), .int (iZ 8)]) X (T_isOneOf_m S tl 2 1 8 (by decide) ⟨by decide, by decide⟩ ⟨by decide, by decide⟩) cb_T_26 rfl rfl T_isOneOf_im T_isOneOf_se rfl ⟨Nat.le_of_ble_eq_true rfl, Nat.le_of_ble_eq_true rfl⟩ (Nat.le_of_ble_eq_true rfl) ⟨Nat.le_of_ble_eq_true rfl, Nat.le_of_ble_eq_true rfl⟩ (T_saysStitched_d.d 12 rfl) (fun v h' q => ?_)
      obtain ⟨rfl, rfl⟩ := q
      refine AW.if_ne X (T_saysStitched_d.d 13 rfl) (fun q13 => ?_) (fun q13 => ?_)
      · have hZ1 : tp_Z1 (S.2.1 1) n := ⟨hn3, dq_t.mp q7, dq_t.mp q13⟩
        obtain ⟨hK1, hK2, hK3⟩ := hK.1 hZ1
        refine AW.run X T_saysStitched_d 16 3 rfl ?_
        refine AW.cl1 (j := 2) X rfl (by decide) (T_saysStitched_d.d 19 rfl) ?_
        refine AW.run X T_saysStitched_d 20 14 rfl ?_
        rw [hK1]
        have e0 : Int32.ofInt 3 + nI K + (nI K - Int32.ofInt 1) + Int32.ofInt 2 * nI K = nI (4 * K + 2) := by
          rw [show Int32.ofInt 2 * nI K = nI (2 * K) from pk_mul 2 K, show nI K - Int32.ofInt 1 = nI (K - 1) from pk_sub (b := 1) hK2, show Int32.ofInt 3 + nI K = nI (3 + K) from nI_add 3 K, nI_add, nI_add]
          congr 1
          omega
        refine AW.icmp_eq X (T_saysStitched_d.d 34 rfl) (fun q34 => ?_) (fun q34 => ?_)
        · have hn9 : n = 4 * K + 2 := ceq q34 hc e0 (by omega) (by omega)
          refine AW.run X T_saysStitched_d 37 2 rfl ?_
          have L63 : ∀ (t k : Nat), k ≤ K → K - k < t → (∀ j, j < k → tp_f tk gv m0 (nI o) ((S.2.1 1) (3 + j))) → AW p l e (ax_R 1 0 0) s m args below meth c VV G 7 (x_hC S tl) 0 0 (MQ below (ax_Q VV G (fun v h' => ∃ K, tp_K (S.2.1 1) n K ∧ v = some (.int (bI (dc (tp_Z4 (S.2.1 1) tk gv n m0 (nI o) K (K - 1))))) ∧ h' = x_hC S tl)) args s 0 0 (fun q => G.bs ≤ q)) 63 [(5, .int (nI k)), (4, .int (nI K)), (0, .ref 134), (1, .int (nI o)), (2, .ref 136), (3, .int (nI m0))] [] := by
            intro t
            induction t with
            | zero => intro k h1 h2; exact absurd h2 (by omega)
            | succ t ih =>
              intro k h1 h2 h3
              refine AW.run X T_saysStitched_d 39 2 rfl ?_
              refine AW.icmp_ge X (T_saysStitched_d.d 41 rfl) (fun q41 => ?_) (fun q41 => ?_)
              · have g3 : tp_Z3 (S.2.1 1) tk gv n m0 (nI o) K K := ⟨hZ1, hn9, fun j hj => h3 j (by have := cge q41; omega)⟩
                refine AW.run X T_saysStitched_d 64 7 rfl ?_
                rw [show Int32.ofInt 3 + nI K = nI (3 + K) from nI_add 3 K, show nI K - Int32.ofInt 1 = nI (K - 1) from pk_sub (b := 1) hK2]
                refine AW.callV (As := [.int (nI (3 + K)), .int (nI (K - 1))]) X (T_areBounds_m S tl (3 + K) (K - 1) (by omega)) cb_T_34 rfl rfl T_areBounds_im T_areBounds_se rfl ⟨Nat.le_of_ble_eq_true rfl, Nat.le_of_ble_eq_true rfl⟩ (Nat.le_of_ble_eq_true rfl) ⟨Nat.le_of_ble_eq_true rfl, Nat.le_of_ble_eq_true rfl⟩ (T_saysStitched_d.d 71 rfl) (fun v h' q => ?_)
                obtain ⟨rfl, rfl⟩ := q
                exact AW.zret X (bI_nar _) (T_saysStitched_d.d 72 rfl) (Nat.le_of_ble_eq_true rfl) (Nat.le_of_ble_eq_true rfl) ⟨K, hK, by rw [dc_iff (tp_Z4_B hK2), dc_iff (P := tp_B (S.2.1 1) (3 + K) (K - 1)) ⟨fun z => And.intro g3 z, fun z => z.2⟩], rfl⟩
              · have hk : k < K := clt q41
                refine AW.run X T_saysStitched_d 42 5 rfl ?_
                refine AW.cl1 (j := 3 + k) X (nI_add 3 k) (by omega) (T_saysStitched_d.d 47 rfl) ?_
                refine AW.run X T_saysStitched_d 48 2 rfl ?_
                refine AW.if_lt X (T_saysStitched_d.d 50 rfl) (fun q50 => ?_) (fun q50 => ?_)
                · refine AW.run X T_saysStitched_d 60 1 rfl ?_
                  exact AW.zret X n_0 (T_saysStitched_d.d 61 rfl) (Nat.le_of_ble_eq_true rfl) (Nat.le_of_ble_eq_true rfl) ⟨K, hK, vd_f (fun w => by have := (w.1.2.2 k hk).1.1; have z := Int32.lt_iff_toInt_lt.mp q50; have z3 : (0 : Int32).toInt = 0 := rfl; omega), rfl⟩
                · refine AW.run X T_saysStitched_d 51 2 rfl ?_
                  refine AW.icmp_ge X (T_saysStitched_d.d 53 rfl) (fun q53 => ?_) (fun q53 => ?_)
                  · refine AW.run X T_saysStitched_d 60 1 rfl ?_
                    exact AW.zret X n_0 (T_saysStitched_d.d 61 rfl) (Nat.le_of_ble_eq_true rfl) (Nat.le_of_ble_eq_true rfl) ⟨K, hK, vd_f (fun w => by have := (w.1.2.2 k hk).1.2; have z := Int32.le_iff_toInt_le.mp q53; rw [iZ_n, iZ_t ⟨by omega, by omega⟩] at z; omega), rfl⟩
                  · obtain ⟨jx, hj1, hj2⟩ : ∃ jx, jx < m0 ∧ S.2.1 1 (3 + k) = nI jx := by
                      have z1 := Int32.le_iff_toInt_le.mp (Int32.not_lt.mp q50)
                      have z3 : (0 : Int32).toInt = 0 := rfl
                      have z4 : S.2.1 1 (3 + k) = nI (S.2.1 1 (3 + k)).toInt.toNat := i_nat (by omega)
                      refine ⟨(S.2.1 1 (3 + k)).toInt.toNat, ?_, z4⟩
                      have z2 := k2_lt q53
                      rw [z4] at z2
                      exact (nI_ltI (by have := (zI_i (S.2.1 1 (3 + k))).2; omega) (by omega)).mp z2
                    obtain ⟨a, ha1, ha2⟩ := hf jx hj1
                    refine AW.run X T_saysStitched_d 54 2 rfl ?_
                    refine AW.crl0 (j := jx) X hj2 (by omega) (T_saysStitched_d.d 56 rfl) ?_
                    rw [ha1, show va_rf (some a) = .ref a from rfl]
                    refine AW.run X T_saysStitched_d 57 1 rfl ?_
                    refine AW.callS (As := [.ref a, .int (nI o)]) X (T_isPart_m a (tk jx) (gv jx) (nI o) ha2) cb_T_30 T_isPart_st rfl ⟨Nat.le_of_ble_eq_true rfl, Nat.le_of_ble_eq_true rfl⟩ (Nat.le_of_ble_eq_true rfl) ⟨Nat.le_of_ble_eq_true rfl, Nat.le_of_ble_eq_true rfl⟩ (T_saysStitched_d.d 58 rfl) (fun v h' q => ?_)
                    obtain ⟨rfl, rfl⟩ := q
                    refine AW.if_ne X (T_saysStitched_d.d 59 rfl) (fun q59 => ?_) (fun q59 => ?_)
                    · refine AW.run X T_saysStitched_d 62 1 rfl ?_
                      refine AW.goto X (T_saysStitched_d.d 63 rfl) ?_
                      refine AW.pk [0, 2, 3, 4, 5, 6] rfl ?_
                      rw [nI_o1]
                      exact ih (k + 1) (by omega) (by omega) (fun j hj => by
                        by_cases e1 : j = k
                        · have w := dq_t.mp q59
                          rw [e1, hj2]
                          refine ⟨?_, ?_⟩
                          · unfold tp_i
                            rw [iZ_n, iZ_t ⟨by omega, by omega⟩]
                            exact ⟨by omega, by omega⟩
                          · rw [nI_clamp (by omega)]; exact w
                        · exact h3 j (by omega))
                    · refine AW.run X T_saysStitched_d 60 1 rfl ?_
                      exact AW.zret X n_0 (T_saysStitched_d.d 61 rfl) (Nat.le_of_ble_eq_true rfl) (Nat.le_of_ble_eq_true rfl) ⟨K, hK, vd_f (fun w => dq_f.mp q59 (by have z := (w.1.2.2 k hk).2; rw [hj2, nI_clamp (by omega)] at z; exact z)), rfl⟩
          exact L63 (K + 1) 0 (by omega) (by omega) (fun j hj => absurd hj (by omega))
        · refine AW.run X T_saysStitched_d 35 1 rfl ?_
          exact AW.zret X n_0 (T_saysStitched_d.d 36 rfl) (Nat.le_of_ble_eq_true rfl) (Nat.le_of_ble_eq_true rfl) ⟨K, hK, vd_f (fun w => q34 (by rw [hc, w.1.2.1, e0])), rfl⟩
      · refine AW.run X T_saysStitched_d 14 1 rfl ?_
        exact AW.zret X n_0 (T_saysStitched_d.d 15 rfl) (Nat.le_of_ble_eq_true rfl) (Nat.le_of_ble_eq_true rfl) ⟨K, hK, vd_f (tp_K0 (fun w => dq_f.mp q13 w.2.2)), rfl⟩

