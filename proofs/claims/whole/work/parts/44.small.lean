theorem sh_u (x s : Int32) (k : Nat) (hs : ((s.toUInt32 &&& Int32.toUInt32 31).toBitVec % 32).toNat = k) : (x.toUInt32 >>> (s.toUInt32 &&& Int32.toUInt32 31)).toInt32.toBitVec = x.toBitVec >>> k := by
  show (x.toUInt32 >>> (s.toUInt32 &&& Int32.toUInt32 31)).toBitVec = _
  rw [UInt32.toBitVec_shiftRight]
  show x.toBitVec >>> ((s.toUInt32 &&& Int32.toUInt32 31).toBitVec % 32) = _
  rw [BitVec.ushiftRight_eq', hs]
theorem sh_s (x s : Int32) (k : Nat) (hs : (s.toBitVec.smod 32).toNat = k) : (x >>> s).toBitVec = x.toBitVec.sshiftRight k := by
  rw [Int32.toBitVec_shiftRight]
  show x.toBitVec.sshiftRight' (s.toBitVec.smod 32) = _
  rw [BitVec.sshiftRight_eq', hs]
theorem sh_8 {x y : Int32} (h : ∀ i, i < 8 → x.toBitVec.getLsbD i = y.toBitVec.getLsbD i) : x.toInt8 = y.toInt8 := by
  apply Int8.toBitVec_inj.mp
  apply BitVec.eq_of_getLsbD_eq
  intro i hi
  show (x.toBitVec.signExtend 8).getLsbD i = (y.toBitVec.signExtend 8).getLsbD i
  rw [BitVec.getLsbD_signExtend, BitVec.getLsbD_signExtend]
  simp only [hi, decide_true, Bool.true_and]
  rw [if_pos (by omega), if_pos (by omega)]
  exact h i hi
theorem fb_u (w : Int32) {k : Nat} (hk : k < 4) : (w.toUInt32 >>> ((iZ (24 - 8 * (k : Int))).toUInt32 &&& Int32.toUInt32 31)).toInt32.toInt8.toInt32 = f_b w k := by
  unfold f_b
  congr 1
  apply sh_8
  intro i hi
  have h1 : k = 0 ∨ k = 1 ∨ k = 2 ∨ k = 3 := by omega
  rcases h1 with rfl | rfl | rfl | rfl
  · rw [sh_u w _ 24 (by decide), sh_s w _ 24 (by decide), BitVec.getLsbD_ushiftRight, BitVec.getLsbD_sshiftRight]; rw [if_pos (by omega), decide_eq_false (by omega), Bool.not_false, Bool.true_and]
  · rw [sh_u w _ 16 (by decide), sh_s w _ 16 (by decide), BitVec.getLsbD_ushiftRight, BitVec.getLsbD_sshiftRight]; rw [if_pos (by omega), decide_eq_false (by omega), Bool.not_false, Bool.true_and]
  · rw [sh_u w _ 8 (by decide), sh_s w _ 8 (by decide), BitVec.getLsbD_ushiftRight, BitVec.getLsbD_sshiftRight]; rw [if_pos (by omega), decide_eq_false (by omega), Bool.not_false, Bool.true_and]
  · rw [sh_u w _ 0 (by decide), sh_s w _ 0 (by decide), BitVec.getLsbD_ushiftRight, BitVec.getLsbD_sshiftRight]; rw [if_pos (by omega), decide_eq_false (by omega), Bool.not_false, Bool.true_and]
theorem x_i0 (S : x_S) (k : Nat) : x_i S k (S.1 k) = S := by
  unfold x_i
  rw [show upd S.1 k (S.1 k) = S.1 from funext fun j => by unfold upd; by_cases h : j = k <;> simp [h]]
theorem x_R0 (S : x_S) (k : Nat) : x_R S k (S.2.2.1 k) = S := by
  unfold x_R
  rw [va_up_id]
theorem x_rR (S : x_S) (k j : Nat) (f : Nat → Option Nat) (x : Option Nat) : x_r (x_R S k f) k j x = x_R S k (va_up f j x) := by
  simp only [x_r, x_R, va_up_self, bx_uu]
theorem x_iAi (S : x_S) (i k : Nat) (x y : Int32) (f : Nat → Int32) : x_i (x_A (x_i S i x) k f) i y = x_A (x_i S i y) k f := by
  unfold x_i x_A
  rw [upd_upd]
theorem x_Ag (S : x_S) (k : Nat) (f : Nat → Int32) : (x_A S k f).2.1 k = f := va_up_self _ _ _
theorem x_fd (S : x_S) (x1 x2 x3 x4 x5 : Int32) (f1 f2 f3 f4 f5 : Nat → Int32) : x_A (x_i (x_A (x_i (x_A (x_i (x_A (x_i (x_A (x_i S 0 x1) 0 f1) 0 x2) 0 f2) 0 x3) 0 f3) 0 x4) 0 f4) 0 x5) 0 f5 = x_A (x_i S 0 x5) 0 f5 := by
  unfold x_i x_A
  simp only [upd_upd, bx_uu]
theorem upd_s (f : Nat → Int32) (k : Nat) (x : Int32) : upd f k x k = x := by simp [upd]
theorem upd_n {f : Nat → Int32} {k j : Nat} {x : Int32} (h : j ≠ k) : upd f k x j = f j := by simp [upd, h]
theorem lk2 (w : Int32) : (w = 0 ∧ Op.lookupswitch.offset [(0, 27), (1, 35)] 43 w.toInt = 27) ∨ (w = 1 ∧ Op.lookupswitch.offset [(0, 27), (1, 35)] 43 w.toInt = 35) ∨ (¬ w = 0 ∧ ¬ w = 1 ∧ Op.lookupswitch.offset [(0, 27), (1, 35)] 43 w.toInt = 43) := by
  by_cases h0 : w = 0
  · subst h0; exact Or.inl ⟨rfl, by decide⟩
  by_cases h1 : w = 1
  · subst h1; exact Or.inr (Or.inl ⟨rfl, by decide⟩)
  refine Or.inr (Or.inr ⟨h0, h1, ?_⟩)
  have e0 : ¬ w.toInt = 0 := fun z => h0 (Int32.toInt_inj.mp z)
  have e1 : ¬ w.toInt = 1 := fun z => h1 (Int32.toInt_inj.mp z)
  simp [Op.lookupswitch.offset, Ne.symm e0, Ne.symm e1, e0, e1]
theorem tk5 (x : Int32) : (x.toInt < 0 ∨ 4 < x.toInt) ∨ x = 0 ∨ x = 1 ∨ x = 2 ∨ x = 3 ∨ x = 4 := by
  have h : (x.toInt < 0 ∨ 4 < x.toInt) ∨ x.toInt = 0 ∨ x.toInt = 1 ∨ x.toInt = 2 ∨ x.toInt = 3 ∨ x.toInt = 4 := by omega
  have e : ∀ {a : Int32}, x.toInt = a.toInt → x = a := fun h => Int32.toInt_inj.mp h
  rcases h with h | h | h | h | h | h
  · exact Or.inl h
  · exact Or.inr (Or.inl (e (a := 0) h))
  · exact Or.inr (Or.inr (Or.inl (e (a := 1) h)))
  · exact Or.inr (Or.inr (Or.inr (Or.inl (e (a := 2) h))))
  · exact Or.inr (Or.inr (Or.inr (Or.inr (Or.inl (e (a := 3) h)))))
  · exact Or.inr (Or.inr (Or.inr (Or.inr (Or.inr (e (a := 4) h)))))
theorem mx_sub {n k : Nat} (hn : n ≤ 8192) (hk : k < 2 ^ 31) : (if nI n - nI k < 0 then 0 else nI n - nI k) = nI (n - k) := by
  rw [iZ_n n, iZ_n k, iZ_sub, show (0 : Int32) = iZ 0 from rfl]
  by_cases h : (n : Int) - k < 0
  · rw [if_pos ((iZ_lt ⟨by omega, by omega⟩ ⟨by decide, by decide⟩).mpr h), iZ_n, show n - k = 0 by omega]
    rfl
  · rw [if_neg (fun z => h ((iZ_lt ⟨by omega, by omega⟩ ⟨by decide, by decide⟩).mp z)), iZ_n]
    congr 1
    omega
theorem zN_lo : (-1073741824 : Int32) = iZ (-1073741824) := by decide
theorem zN_hi : (1073741824 : Int32) = iZ 1073741824 := by decide

set_option maxHeartbeats 4000000 in
set_option maxRecDepth 100000 in
theorem N_appendBytes_m {l : Launch} {G : ax_G} (S : x_S) (tl : List va_E) (w : Int32) (n : Nat) (hn : S.1 0 = nI n) (hle : n + 4 ≤ 8192) :
    AM l VV G N_appendBytes_y N_appendBytes_c 3 none 0 0 0 [.ref 132, .int w] (x_hC S tl) (fun v h' => v = none ∧ ∃ f, h' = x_hC (x_A (x_i S 0 (nI (n + 4))) 0 f) tl ∧ (∀ j, ¬ (n ≤ j ∧ j < n + 4) → f j = S.2.1 0 j) ∧ ∀ i, i < 4 → f (n + i) = f_b w i) := by
  refine AM.of (pl := pl_N) (by decide) v_good fl_N_ok kl_N_ok nofun (Nat.le_of_ble_eq_true rfl) ?_
  intro p e s m args below meth c X
  refine AW.run X N_appendBytes_d 0 2 rfl ?_
  have L3 : ∀ (t k : Nat) (f : Nat → Int32), k ≤ 4 → 4 - k < t → (∀ j, ¬ (n ≤ j ∧ j < n + k) → f j = S.2.1 0 j) → (∀ i, i < k → f (n + i) = f_b w i) → AW p l e (ax_R 0 0 0) s m args below meth c VV G 3 (x_hC (x_A (x_i S 0 (nI (n + k))) 0 f) tl) 0 0 (MQ below (ax_Q VV G (fun v h' => v = none ∧ ∃ f, h' = x_hC (x_A (x_i S 0 (nI (n + 4))) 0 f) tl ∧ (∀ j, ¬ (n ≤ j ∧ j < n + 4) → f j = S.2.1 0 j) ∧ ∀ i, i < 4 → f (n + i) = f_b w i)) args s 0 0 (fun q => G.bs ≤ q)) 3 [(2, .int (iZ (24 - 8 * (k : Int)))), (0, .ref 132), (1, .int w)] [] := by
    intro t
    induction t with
    | zero => intro k f h1 h2; exact absurd h2 (by omega)
    | succ t ih =>
      intro k f h1 h2 h3 h4
      refine AW.run X N_appendBytes_d 2 1 rfl ?_
      refine AW.if_lt X (N_appendBytes_d.d 3 rfl) (fun q3 => ?_) (fun q3 => ?_)
      · exact AW.vret X (N_appendBytes_d.d 25 rfl) (Nat.le_of_ble_eq_true rfl) (Nat.le_of_ble_eq_true rfl) ⟨rfl, f, by rw [show k = 4 by have := (iZ_lt (a := 24 - 8 * (k : Int)) (b := 0) ⟨by omega, by omega⟩ ⟨by decide, by decide⟩).mp q3; omega], fun j hj => h3 j (by omega), fun i hi => h4 i (by have := (iZ_lt (a := 24 - 8 * (k : Int)) (b := 0) ⟨by omega, by omega⟩ ⟨by decide, by decide⟩).mp q3; omega)⟩
      · have hk : k < 4 := by
          have := mt (fun z : 24 - 8 * (k : Int) < 0 => (iZ_lt ⟨by omega, by omega⟩ ⟨by decide, by decide⟩).mpr z) q3
          omega
        refine AW.run X N_appendBytes_d 4 3 rfl ?_
        refine AW.icmp_ge X (N_appendBytes_d.d 7 rfl) (fun q7 => absurd (cge (a := n + k) (b := 8192) q7) (by omega)) (fun q7 => ?_)
        refine AW.run X N_appendBytes_d 8 8 rfl ?_
        refine AW.cs0 (j := n + k) X rfl (show n + k < 8192 by omega) (N_appendBytes_d.d 16 rfl) ?_
        refine AW.run X N_appendBytes_d 17 5 rfl ?_
        refine AW.cp0 X (N_appendBytes_d.d 22 rfl) ?_
        refine AW.run X N_appendBytes_d 23 1 rfl ?_
        refine AW.goto X (N_appendBytes_d.d 24 rfl) ?_
        exact AW.eq (h' := x_hC (x_A (x_i S 0 (nI (n + (k + 1)))) 0 (upd f (n + k) (f_b w k))) tl) (by
          rw [x_aA, fb_u w hk, show vp_nar .byte (f_b w k) = f_b w k from f_nar _]
          exact congrArg (fun z => x_hC z tl) (by rw [← Nat.add_assoc, ← nI_o1 (n + k)]; exact x_iAi S 0 0 _ _ _)) (by
          rw [show iZ (24 - 8 * (k : Int)) + Int32.ofInt (-8) = iZ (24 - 8 * ((k + 1 : Nat) : Int)) from by rw [show Int32.ofInt (-8) = iZ (-8) from rfl, iZ_add]; congr 1; omega]
          exact ih (k + 1) _ (by omega) (by omega) (fun j hj => by rw [upd_n (by omega)]; exact h3 j (by omega)) (fun i hi => by
            by_cases e1 : i = k
            · rw [e1, upd_s]
            · rw [upd_n (by omega)]; exact h4 i (by omega)))
  rw [show S = x_A (x_i S 0 (nI (n + 0))) 0 (S.2.1 0) from by
    rw [x_A0 (x_i S 0 (nI (n + 0))) 0 |> (show x_A (x_i S 0 (nI (n + 0))) 0 (S.2.1 0) = x_i S 0 (nI (n + 0)) from ·), Nat.add_zero, ← hn]
    exact (x_i0 S 0).symm]
  exact L3 5 0 (S.2.1 0) (by omega) (by omega) (fun j _ => rfl) (fun i hi => absurd hi (by omega))

set_option maxHeartbeats 4000000 in
set_option maxRecDepth 100000 in
theorem N_feed_m {l : Launch} {G : ax_G} (S : x_S) (tl : List va_E) (a b c0 d e0 : Int32) (n : Nat) (hn : S.1 0 = nI n) (hle : n ≤ 8192) :
    AM l VV G N_feed_y N_feed_c 6 (some .int) 1 0 0 [.ref 132, .int a, .int b, .int c0, .int d, .int e0] (x_hC S tl) (fun v h' => if 8192 < n + 20 then v = some (.int (-1)) ∧ h' = x_hC S tl else ∃ f, v = some (.int (nI (n + 20))) ∧ h' = x_hC (x_A (x_i S 0 (nI (n + 20))) 0 f) tl ∧ (∀ j, ¬ (n ≤ j ∧ j < n + 20) → f j = S.2.1 0 j) ∧ ∀ i, i < 20 → f (n + i) = f_b (f_w a b c0 d e0 i) (i % 4)) := by
  refine AM.of (pl := pl_N) (by decide) v_good fl_N_ok kl_N_ok nofun (Nat.le_of_ble_eq_true rfl) ?_
  intro p e s m args below meth c X
  refine AW.run X N_feed_d 0 5 rfl ?_
  refine AW.icmp_le X (N_feed_d.d 5 rfl) (fun q5 => ?_) (fun q5 => ?_)
  · have hlt : n + 20 ≤ 8192 := (nI_leI (by omega) (by decide)).mp (by rw [← nI_add, ← hn]; exact q5)
    refine AW.run X N_feed_d 8 2 rfl ?_
    refine AW.callV (As := [.int a]) X (N_appendBytes_m S tl a n hn (by omega)) cb_N_64 rfl rfl N_appendBytes_im N_appendBytes_se rfl ⟨Nat.le_of_ble_eq_true rfl, Nat.le_of_ble_eq_true rfl⟩ (Nat.le_of_ble_eq_true rfl) ⟨Nat.le_of_ble_eq_true rfl, Nat.le_of_ble_eq_true rfl⟩ (N_feed_d.d 10 rfl) (fun v h' q => ?_)
    obtain ⟨rfl, f1, rfl, u1, w1⟩ := q
    refine AW.run X N_feed_d 11 2 rfl ?_
    refine AW.callV (As := [.int b]) X (N_appendBytes_m (x_A (x_i S 0 (nI (n + 4))) 0 f1) tl b (n + 4) rfl (by omega)) cb_N_64 rfl rfl N_appendBytes_im N_appendBytes_se rfl ⟨Nat.le_of_ble_eq_true rfl, Nat.le_of_ble_eq_true rfl⟩ (Nat.le_of_ble_eq_true rfl) ⟨Nat.le_of_ble_eq_true rfl, Nat.le_of_ble_eq_true rfl⟩ (N_feed_d.d 13 rfl) (fun v h' q => ?_)
    obtain ⟨rfl, f2, rfl, u2, w2⟩ := q
    refine AW.run X N_feed_d 14 2 rfl ?_
    refine AW.callV (As := [.int c0]) X (N_appendBytes_m (x_A (x_i (x_A (x_i S 0 (nI (n + 4))) 0 f1) 0 (nI (n + 4 + 4))) 0 f2) tl c0 (n + 8) rfl (by omega)) cb_N_64 rfl rfl N_appendBytes_im N_appendBytes_se rfl ⟨Nat.le_of_ble_eq_true rfl, Nat.le_of_ble_eq_true rfl⟩ (Nat.le_of_ble_eq_true rfl) ⟨Nat.le_of_ble_eq_true rfl, Nat.le_of_ble_eq_true rfl⟩ (N_feed_d.d 16 rfl) (fun v h' q => ?_)
    obtain ⟨rfl, f3, rfl, u3, w3⟩ := q
    refine AW.run X N_feed_d 17 2 rfl ?_
    refine AW.callV (As := [.int d]) X (N_appendBytes_m (x_A (x_i (x_A (x_i (x_A (x_i S 0 (nI (n + 4))) 0 f1) 0 (nI (n + 4 + 4))) 0 f2) 0 (nI (n + 8 + 4))) 0 f3) tl d (n + 12) rfl (by omega)) cb_N_64 rfl rfl N_appendBytes_im N_appendBytes_se rfl ⟨Nat.le_of_ble_eq_true rfl, Nat.le_of_ble_eq_true rfl⟩ (Nat.le_of_ble_eq_true rfl) ⟨Nat.le_of_ble_eq_true rfl, Nat.le_of_ble_eq_true rfl⟩ (N_feed_d.d 19 rfl) (fun v h' q => ?_)
    obtain ⟨rfl, f4, rfl, u4, w4⟩ := q
    refine AW.run X N_feed_d 20 2 rfl ?_
    refine AW.callV (As := [.int e0]) X (N_appendBytes_m (x_A (x_i (x_A (x_i (x_A (x_i (x_A (x_i S 0 (nI (n + 4))) 0 f1) 0 (nI (n + 4 + 4))) 0 f2) 0 (nI (n + 8 + 4))) 0 f3) 0 (nI (n + 12 + 4))) 0 f4) tl e0 (n + 16) rfl (by omega)) cb_N_64 rfl rfl N_appendBytes_im N_appendBytes_se rfl ⟨Nat.le_of_ble_eq_true rfl, Nat.le_of_ble_eq_true rfl⟩ (Nat.le_of_ble_eq_true rfl) ⟨Nat.le_of_ble_eq_true rfl, Nat.le_of_ble_eq_true rfl⟩ (N_feed_d.d 22 rfl) (fun v h' q => ?_)
    obtain ⟨rfl, f5, rfl, u5, w5⟩ := q
    refine AW.run X N_feed_d 23 2 rfl ?_
    exact AW.iret X (N_feed_d.d 25 rfl) (Nat.le_of_ble_eq_true rfl) (Nat.le_of_ble_eq_true rfl) (by
      rw [if_neg (by omega)]
      refine ⟨f5, rfl, ?_, fun j hj => ?_, fun i hi => ?_⟩
      · exact congrArg (fun z => x_hC z tl) (x_fd S _ _ _ _ _ _ _ _ _ _)
      · rw [u5 j (by omega), x_Ag, u4 j (by omega), x_Ag, u3 j (by omega), x_Ag, u2 j (by omega), x_Ag, u1 j (by omega)]
      · simp only [x_Ag] at u5 u4 u3 u2 u1
        have hc : i < 4 ∨ (4 ≤ i ∧ i < 8) ∨ (8 ≤ i ∧ i < 12) ∨ (12 ≤ i ∧ i < 16) ∨ (16 ≤ i ∧ i < 20) := by omega
        unfold f_w
        rcases hc with z | z | z | z | z
        · rw [if_pos z, u5 _ (by omega), u4 _ (by omega), u3 _ (by omega), u2 _ (by omega), w1 i (by omega), show i % 4 = i by omega]
        · rw [if_neg (by omega), if_pos z.2, u5 _ (by omega), u4 _ (by omega), u3 _ (by omega), show n + i = n + 4 + (i - 4) by omega, w2 (i - 4) (by omega), show i % 4 = i - 4 by omega]
        · rw [if_neg (by omega), if_neg (by omega), if_pos z.2, u5 _ (by omega), u4 _ (by omega), show n + i = n + 8 + (i - 8) by omega, w3 (i - 8) (by omega), show i % 4 = i - 8 by omega]
        · rw [if_neg (by omega), if_neg (by omega), if_neg (by omega), if_pos z.2, u5 _ (by omega), show n + i = n + 12 + (i - 12) by omega, w4 (i - 12) (by omega), show i % 4 = i - 12 by omega]
        · rw [if_neg (by omega), if_neg (by omega), if_neg (by omega), if_neg (by omega), show n + i = n + 16 + (i - 16) by omega, w5 (i - 16) (by omega), show i % 4 = i - 16 by omega])
  · refine AW.run X N_feed_d 6 1 rfl ?_
    exact AW.iret X (N_feed_d.d 7 rfl) (Nat.le_of_ble_eq_true rfl) (Nat.le_of_ble_eq_true rfl) (by rw [if_pos (by have := mt (nI_leI (a := n + 20) (b := 8192) (by omega) (by decide)).mpr (fun z => q5 (by show S.1 0 + nI 20 ≤ nI 8192; rw [hn, nI_add]; exact z)); omega)]; exact ⟨rfl, rfl⟩)

set_option maxHeartbeats 4000000 in
set_option maxRecDepth 100000 in
theorem N_drop_m {l : Launch} {G : ax_G} (S : x_S) (tl : List va_E)  :
    AM l VV G N_drop_y N_drop_c 2 (some .int) 0 0 0 [.ref 132] (x_hC S tl) (fun v h' => v = some (.int (S.1 2)) ∧ h' = x_hC (x_i S 2 0) tl) := by
  refine AM.of (pl := pl_N) (by decide) v_good fl_N_ok kl_N_ok nofun (Nat.le_of_ble_eq_true rfl) ?_
  intro p e s m args below meth c X
  refine AW.run X N_drop_d 0 7 rfl ?_
  refine AW.cp2 X (N_drop_d.d 7 rfl) ?_
  refine AW.run X N_drop_d 8 1 rfl ?_
  exact AW.iret X (N_drop_d.d 9 rfl) (Nat.le_of_ble_eq_true rfl) (Nat.le_of_ble_eq_true rfl) ⟨rfl, rfl⟩

set_option maxHeartbeats 4000000 in
set_option maxRecDepth 100000 in
theorem N_clear_m {l : Launch} {G : ax_G} (S : x_S) (tl : List va_E)  :
    AM l VV G N_clear_y N_clear_c 3 (some .int) 0 0 0 [.ref 132] (x_hC S tl) (fun v h' => v = some (.int (S.1 1)) ∧ ∃ f, h' = x_hC (x_i (x_R S 0 f) 1 0) tl) := by
  refine AM.of (pl := pl_N) (by decide) v_good fl_N_ok kl_N_ok nofun (Nat.le_of_ble_eq_true rfl) ?_
  intro p e s m args below meth c X
  refine AW.run X N_clear_d 0 5 rfl ?_
  have L7 : ∀ (t k : Nat) (f : Nat → Option Nat), k ≤ 24 → 24 - k < t → AW p l e (ax_R 0 0 0) s m args below meth c VV G 3 (x_hC (x_R S 0 f) tl) 0 0 (MQ below (ax_Q VV G (fun v h' => v = some (.int (S.1 1)) ∧ ∃ f, h' = x_hC (x_i (x_R S 0 f) 1 0) tl)) args s 0 0 (fun q => G.bs ≤ q)) 7 [(2, .int (nI k)), (1, .int (S.1 1)), (0, .ref 132)] [] := by
    intro t
    induction t with
    | zero => intro k f h1 h2; exact absurd h2 (by omega)
    | succ t ih =>
      intro k f h1 h2
      refine AW.run X N_clear_d 5 2 rfl ?_
      refine AW.icmp_ge X (N_clear_d.d 7 rfl) (fun q7 => ?_) (fun q7 => ?_)
      · refine AW.run X N_clear_d 15 2 rfl ?_
        refine AW.cp1 X (N_clear_d.d 17 rfl) ?_
        refine AW.run X N_clear_d 18 1 rfl ?_
        exact AW.iret X (N_clear_d.d 19 rfl) (Nat.le_of_ble_eq_true rfl) (Nat.le_of_ble_eq_true rfl) ⟨rfl, f, rfl⟩
      · refine AW.run X N_clear_d 8 4 rfl ?_
        refine AW.crn0 (j := k) X rfl (show k < 24 from clt (b := 24) q7) (N_clear_d.d 12 rfl) ?_
        refine AW.run X N_clear_d 13 1 rfl ?_
        refine AW.goto X (N_clear_d.d 14 rfl) ?_
        rw [nI_o1, x_rR]
        exact ih (k + 1) _ (by have := clt (b := 24) q7; omega) (by have := clt (b := 24) q7; omega)
  rw [← x_R0 S 0]
  exact L7 25 0 (S.2.2.1 0) (by omega) (by omega)

set_option maxHeartbeats 4000000 in
set_option maxRecDepth 100000 in
theorem N_fault_m {l : Launch} {G : ax_G} (S : x_S) (tl : List va_E) (w : Int32) :
    AM l VV G N_fault_y N_fault_c 2 (some .int) 0 0 0 [.ref 132, .int w] (x_hC S tl) (fun v h' => v = some (.int (if w = 0 then S.1 3 else if w = 1 then S.1 4 else -1)) ∧ h' = x_hC S tl) := by
  refine AM.of (pl := pl_N) (by decide) v_good fl_N_ok kl_N_ok nofun (Nat.le_of_ble_eq_true rfl) ?_
  intro p e s m args below meth c X
  refine AW.run X N_fault_d 0 1 rfl ?_
  rcases lk2 w with ⟨z, y⟩ | ⟨z, y⟩ | ⟨z, z2, y⟩
  · refine AW.lookup X (N_fault_d.d 1 rfl) (by decide) y ?_
    refine AW.run X N_fault_d 2 3 rfl ?_
    exact AW.iret X (N_fault_d.d 5 rfl) (Nat.le_of_ble_eq_true rfl) (Nat.le_of_ble_eq_true rfl) ⟨by rw [if_pos z], rfl⟩
  · refine AW.lookup X (N_fault_d.d 1 rfl) (by decide) y ?_
    refine AW.run X N_fault_d 6 3 rfl ?_
    exact AW.iret X (N_fault_d.d 9 rfl) (Nat.le_of_ble_eq_true rfl) (Nat.le_of_ble_eq_true rfl) ⟨by rw [if_neg (by rw [z]; decide), if_pos z], rfl⟩
  · refine AW.lookup X (N_fault_d.d 1 rfl) (by decide) y ?_
    refine AW.run X N_fault_d 10 1 rfl ?_
    exact AW.iret X (N_fault_d.d 11 rfl) (Nat.le_of_ble_eq_true rfl) (Nat.le_of_ble_eq_true rfl) ⟨by rw [if_neg z, if_neg z2]; rfl, rfl⟩

set_option maxHeartbeats 4000000 in
set_option maxRecDepth 100000 in
theorem N_isNumber_m {l : Launch} {G : ax_G} {h : List va_E} (w : Int32) :
    AM l VV G N_isNumber_y N_isNumber_c 1 (some .boolean) 0 0 0 [.int w] (h) (fun v h' => v = some (.int (bI (dc (zN w.toInt)))) ∧ h' = h) := by
  refine AM.of (pl := pl_N) (by decide) v_good fl_N_ok kl_N_ok nofun (Nat.le_of_ble_eq_true rfl) ?_
  intro p e s m args below meth c X
  refine AW.run X N_isNumber_d 0 2 rfl ?_
  refine AW.icmp_lt X (N_isNumber_d.d 2 rfl) (fun q2 => ?_) (fun q2 => ?_)
  · refine AW.run X N_isNumber_d 8 1 rfl ?_
    exact AW.zret X n_0 (N_isNumber_d.d 9 rfl) (Nat.le_of_ble_eq_true rfl) (Nat.le_of_ble_eq_true rfl) ⟨vd_f (fun z => by have := (ii_lt (x := w) (a := -1073741824) ⟨by decide, by decide⟩).mp (zN_lo ▸ q2); have := z.1; omega), rfl⟩
  · refine AW.run X N_isNumber_d 3 2 rfl ?_
    refine AW.icmp_gt X (N_isNumber_d.d 5 rfl) (fun q5 => ?_) (fun q5 => ?_)
    · refine AW.run X N_isNumber_d 8 1 rfl ?_
      exact AW.zret X n_0 (N_isNumber_d.d 9 rfl) (Nat.le_of_ble_eq_true rfl) (Nat.le_of_ble_eq_true rfl) ⟨vd_f (fun z => by have := (ii_gt (x := w) (a := 1073741824) ⟨by decide, by decide⟩).mp (zN_hi ▸ q5); have := z.2; omega), rfl⟩
    · refine AW.run X N_isNumber_d 6 1 rfl ?_
      refine AW.goto X (N_isNumber_d.d 7 rfl) ?_
      exact AW.zret X n_1 (N_isNumber_d.d 9 rfl) (Nat.le_of_ble_eq_true rfl) (Nat.le_of_ble_eq_true rfl) ⟨vd_t ⟨by have := mt (ii_lt (x := w) (a := -1073741824) ⟨by decide, by decide⟩).mpr (zN_lo ▸ q2); omega, by have := mt (ii_gt (x := w) (a := 1073741824) ⟨by decide, by decide⟩).mpr (zN_hi ▸ q5); omega⟩, rfl⟩

set_option maxHeartbeats 4000000 in
set_option maxRecDepth 100000 in
theorem N_inputLimit_m {l : Launch} {G : ax_G} {h : List va_E} (w : Int32) :
    AM l VV G N_inputLimit_y N_inputLimit_c 1 (some .int) 0 0 0 [.int w] (h) (fun v h' => v = some (.int (if w = 0 then 3 else if w = 2 ∨ w = 3 then 1 else if w = 4 then 4 else 0)) ∧ h' = h) := by
  refine AM.of (pl := pl_N) (by decide) v_good fl_N_ok kl_N_ok nofun (Nat.le_of_ble_eq_true rfl) ?_
  intro p e s m args below meth c X
  refine AW.run X N_inputLimit_d 0 1 rfl ?_
  rcases tk5 w with z | z | z | z | z | z
  · refine AW.tableOut X (N_inputLimit_d.d 1 rfl) z ?_
    refine AW.run X N_inputLimit_d 8 1 rfl ?_
    exact AW.iret X (N_inputLimit_d.d 9 rfl) (Nat.le_of_ble_eq_true rfl) (Nat.le_of_ble_eq_true rfl) ⟨by rw [if_neg (fun e => by rw [e] at z; exact absurd z (by decide)), if_neg (fun e => by rcases e with e | e <;> rw [e] at z <;> exact absurd z (by decide)), if_neg (fun e => by rw [e] at z; exact absurd z (by decide))]; rfl, rfl⟩
  · subst z
    refine AW.tableIn X (N_inputLimit_d.d 1 rfl) (by decide) (by decide) (off := 35) (by decide) ?_
    refine AW.run X N_inputLimit_d 2 1 rfl ?_
    exact AW.iret X (N_inputLimit_d.d 3 rfl) (Nat.le_of_ble_eq_true rfl) (Nat.le_of_ble_eq_true rfl) ⟨rfl, rfl⟩
  · subst z
    refine AW.tableIn X (N_inputLimit_d.d 1 rfl) (by decide) (by decide) (off := 41) (by decide) ?_
    refine AW.run X N_inputLimit_d 8 1 rfl ?_
    exact AW.iret X (N_inputLimit_d.d 9 rfl) (Nat.le_of_ble_eq_true rfl) (Nat.le_of_ble_eq_true rfl) ⟨rfl, rfl⟩
  · subst z
    refine AW.tableIn X (N_inputLimit_d.d 1 rfl) (by decide) (by decide) (off := 37) (by decide) ?_
    refine AW.run X N_inputLimit_d 4 1 rfl ?_
    exact AW.iret X (N_inputLimit_d.d 5 rfl) (Nat.le_of_ble_eq_true rfl) (Nat.le_of_ble_eq_true rfl) ⟨rfl, rfl⟩
  · subst z
    refine AW.tableIn X (N_inputLimit_d.d 1 rfl) (by decide) (by decide) (off := 37) (by decide) ?_
    refine AW.run X N_inputLimit_d 4 1 rfl ?_
    exact AW.iret X (N_inputLimit_d.d 5 rfl) (Nat.le_of_ble_eq_true rfl) (Nat.le_of_ble_eq_true rfl) ⟨rfl, rfl⟩
  · subst z
    refine AW.tableIn X (N_inputLimit_d.d 1 rfl) (by decide) (by decide) (off := 39) (by decide) ?_
    refine AW.run X N_inputLimit_d 6 1 rfl ?_
    exact AW.iret X (N_inputLimit_d.d 7 rfl) (Nat.le_of_ble_eq_true rfl) (Nat.le_of_ble_eq_true rfl) ⟨rfl, rfl⟩

set_option maxHeartbeats 4000000 in
set_option maxRecDepth 100000 in
theorem U_set_m {l : Launch} {G : ax_G} (S : x_S) (tl : List va_E) (a b : Int32) :
    AM l VV G U_set_y U_set_c 3 none 0 0 0 [.ref 140, .int a, .int b] (x_hC S tl) (fun v h' => v = none ∧ h' = x_hC (x_i (x_i S 3 a) 4 b) tl) := by
  refine AM.of (pl := pl_U) (by decide) v_good fl_U_ok kl_U_ok nofun (Nat.le_of_ble_eq_true rfl) ?_
  intro p e s m args below meth c X
  refine AW.run X U_set_d 0 2 rfl ?_
  refine AW.cp3 X (U_set_d.d 2 rfl) ?_
  refine AW.run X U_set_d 3 2 rfl ?_
  refine AW.cp4 X (U_set_d.d 5 rfl) ?_
  exact AW.vret X (U_set_d.d 6 rfl) (Nat.le_of_ble_eq_true rfl) (Nat.le_of_ble_eq_true rfl) ⟨rfl, rfl⟩

set_option maxHeartbeats 4000000 in
set_option maxRecDepth 100000 in
theorem R_isBrace_m {l : Launch} {G : ax_G} {h : List va_E} (a : Int32) :
    AM l VV G R_isBrace_y R_isBrace_c 1 (some .boolean) 0 0 0 [.int a] (h) (fun v h' => v = some (.int (bI (decide (a = 123 ∨ a = 125)))) ∧ h' = h) := by
  refine AM.of (pl := pl_R) (by decide) v_good fl_R_ok kl_R_ok nofun (Nat.le_of_ble_eq_true rfl) ?_
  intro p e s m args below meth c X
  refine AW.run X R_isBrace_d 0 2 rfl ?_
  refine AW.icmp_eq X (R_isBrace_d.d 2 rfl) (fun q2 => ?_) (fun q2 => ?_)
  · refine AW.run X R_isBrace_d 6 1 rfl ?_
    refine AW.goto X (R_isBrace_d.d 7 rfl) ?_
    exact AW.zret X n_1 (R_isBrace_d.d 9 rfl) (Nat.le_of_ble_eq_true rfl) (Nat.le_of_ble_eq_true rfl) ⟨vb_t (Or.inl q2), rfl⟩
  · refine AW.run X R_isBrace_d 3 2 rfl ?_
    refine AW.icmp_ne X (R_isBrace_d.d 5 rfl) (fun q5 => ?_) (fun q5 => ?_)
    · refine AW.run X R_isBrace_d 8 1 rfl ?_
      exact AW.zret X n_0 (R_isBrace_d.d 9 rfl) (Nat.le_of_ble_eq_true rfl) (Nat.le_of_ble_eq_true rfl) ⟨vb_f (fun z => z.elim q2 q5), rfl⟩
    · refine AW.run X R_isBrace_d 6 1 rfl ?_
      refine AW.goto X (R_isBrace_d.d 7 rfl) ?_
      exact AW.zret X n_1 (R_isBrace_d.d 9 rfl) (Nat.le_of_ble_eq_true rfl) (Nat.le_of_ble_eq_true rfl) ⟨vb_t (Or.inr q5), rfl⟩

set_option maxHeartbeats 4000000 in
set_option maxRecDepth 100000 in
theorem N_cut_m {l : Launch} {G : ax_G} (S : x_S) (tl : List va_E) (k n : Nat) (hk : k < 2 ^ 31) (hn : n ≤ 8192) (hsz : S.1 0 = nI n) :
    AM l VV G N_cut_y N_cut_c 3 (some .int) 1 0 0 [.ref 132, .int (nI k)] (x_hC S tl) (fun v h' => v = some (.int (nI (n - k))) ∧ h' = x_hC (x_i S 0 (nI (n - (n - k)))) tl) := by
  refine AM.of (pl := pl_N) (by decide) v_good fl_N_ok kl_N_ok nofun (Nat.le_of_ble_eq_true rfl) ?_
  intro p e s m args below meth c X
  refine AW.run X N_cut_d 0 1 rfl ?_
  refine AW.if_ge X (N_cut_d.d 1 rfl) (fun q1 => ?_) (fun q1 => ?_)
  · refine AW.run X N_cut_d 7 5 rfl ?_
    refine AW.callS (As := [.int (S.1 0 - nI k), .int 0]) X (JMath_max1_m (S.1 0 - nI k) 0) cb_N_75 JMath_max1_st rfl ⟨Nat.le_of_ble_eq_true rfl, Nat.le_of_ble_eq_true rfl⟩ (Nat.le_of_ble_eq_true rfl) ⟨Nat.le_of_ble_eq_true rfl, Nat.le_of_ble_eq_true rfl⟩ (N_cut_d.d 12 rfl) (fun v h' q => ?_)
    obtain ⟨rfl, rfl⟩ := q
    rw [show (if S.1 0 - nI k < 0 then 0 else S.1 0 - nI k) = nI (n - k) from by rw [hsz]; exact mx_sub hn hk]
    refine AW.run X N_cut_d 13 6 rfl ?_
    refine AW.cp0 X (N_cut_d.d 19 rfl) ?_
    refine AW.run X N_cut_d 20 1 rfl ?_
    exact AW.iret X (N_cut_d.d 21 rfl) (Nat.le_of_ble_eq_true rfl) (Nat.le_of_ble_eq_true rfl) ⟨rfl, by rw [hsz, show nI n - nI (n - k) = nI (n - (n - k)) from pk_sub (by omega)]⟩
  · exact absurd (nI_pos' hk) q1

set_option maxHeartbeats 4000000 in
set_option maxRecDepth 100000 in
theorem N_tell_m {l : Launch} {G : ax_G} (S : x_S) (tl : List va_E) (w : Int32) (n : Nat) (hn : n < 96) (hc : S.1 2 = nI n) (hw : zN w.toInt) :
    AM l VV G N_tell_y N_tell_c 2 (some .int) 1 0 0 [.ref 132, .int w] (x_hC S tl) (fun v h' => v = some (.int (nI (n + 1))) ∧ h' = x_hC (x_i (x_a S 1 n w) 2 (nI (n + 1))) tl) := by
  refine AM.of (pl := pl_N) (by decide) v_good fl_N_ok kl_N_ok nofun (Nat.le_of_ble_eq_true rfl) ?_
  intro p e s m args below meth c X
  refine AW.run X N_tell_d 0 1 rfl ?_
  refine AW.callS (As := [.int w]) X (N_isNumber_m w) cb_N_81 N_isNumber_st rfl ⟨Nat.le_of_ble_eq_true rfl, Nat.le_of_ble_eq_true rfl⟩ (Nat.le_of_ble_eq_true rfl) ⟨Nat.le_of_ble_eq_true rfl, Nat.le_of_ble_eq_true rfl⟩ (N_tell_d.d 1 rfl) (fun v h' q => ?_)
  obtain ⟨rfl, rfl⟩ := q
  refine AW.if_ne X (N_tell_d.d 2 rfl) (fun q2 => ?_) (fun q2 => absurd (dq_f.mp q2) (fun z => z hw))
  refine AW.run X N_tell_d 8 4 rfl ?_
  refine AW.icmp_lt X (N_tell_d.d 12 rfl) (fun q12 => ?_) (fun q12 => absurd ((nI_ltI (a := n) (b := 96) (by omega) (by decide)).mpr hn) (fun z => q12 (by rw [hc]; exact z)))
  refine AW.run X N_tell_d 18 7 rfl ?_
  refine AW.cs1 (j := n) X hc hn (N_tell_d.d 25 rfl) ?_
  refine AW.run X N_tell_d 26 6 rfl ?_
  refine AW.cp2 X (N_tell_d.d 32 rfl) ?_
  refine AW.run X N_tell_d 33 3 rfl ?_
  exact AW.iret X (N_tell_d.d 36 rfl) (Nat.le_of_ble_eq_true rfl) (Nat.le_of_ble_eq_true rfl) ⟨by show some (Value.int (S.1 2 + Int32.ofInt 1)) = _; rw [hc, nI_o1], by rw [← nI_o1, ← hc]; rfl⟩

set_option maxHeartbeats 4000000 in
set_option maxRecDepth 100000 in
theorem N_input_m {l : Launch} {G : ax_G} (S : x_S) (tl : List va_E) (w : Int32) (j : Nat) (hj : j < 4) (hw : zN w.toInt) :
    AM l VV G N_input_y N_input_c 4 (some .int) 1 0 0 [.ref 132, .int (nI j), .int w] (x_hC S tl) (fun v h' => v = some (.int (S.2.1 2 j)) ∧ h' = x_hC (x_a S 2 j w) tl) := by
  refine AM.of (pl := pl_N) (by decide) v_good fl_N_ok kl_N_ok nofun (Nat.le_of_ble_eq_true rfl) ?_
  intro p e s m args below meth c X
  refine AW.run X N_input_d 0 1 rfl ?_
  refine AW.if_lt X (N_input_d.d 1 rfl) (fun q1 => absurd q1 (nI_pos (by omega))) (fun q1 => ?_)
  refine AW.run X N_input_d 2 2 rfl ?_
  refine AW.icmp_ge X (N_input_d.d 4 rfl) (fun q4 => absurd (cge (b := 4) q4) (by omega)) (fun q4 => ?_)
  refine AW.run X N_input_d 5 1 rfl ?_
  refine AW.callS (As := [.int w]) X (N_isNumber_m w) cb_N_81 N_isNumber_st rfl ⟨Nat.le_of_ble_eq_true rfl, Nat.le_of_ble_eq_true rfl⟩ (Nat.le_of_ble_eq_true rfl) ⟨Nat.le_of_ble_eq_true rfl, Nat.le_of_ble_eq_true rfl⟩ (N_input_d.d 6 rfl) (fun v h' q => ?_)
  obtain ⟨rfl, rfl⟩ := q
  refine AW.if_ne X (N_input_d.d 7 rfl) (fun q7 => ?_) (fun q7 => absurd (dq_f.mp q7) (fun z => z hw))
  refine AW.run X N_input_d 13 3 rfl ?_
  refine AW.cl2 (j := j) X rfl hj (N_input_d.d 16 rfl) ?_
  refine AW.run X N_input_d 17 5 rfl ?_
  refine AW.cs2 (j := j) X rfl hj (N_input_d.d 22 rfl) ?_
  refine AW.run X N_input_d 23 1 rfl ?_
  exact AW.iret X (N_input_d.d 24 rfl) (Nat.le_of_ble_eq_true rfl) (Nat.le_of_ble_eq_true rfl) ⟨rfl, rfl⟩

set_option maxHeartbeats 4000000 in
set_option maxRecDepth 100000 in
theorem N_output_m {l : Launch} {G : ax_G} (S : x_S) (tl : List va_E) (j : Nat) (hj : j < 4) :
    AM l VV G N_output_y N_output_c 2 (some .int) 0 0 0 [.ref 132, .int (nI j)] (x_hC S tl) (fun v h' => v = some (.int (S.2.1 3 j)) ∧ h' = x_hC S tl) := by
  refine AM.of (pl := pl_N) (by decide) v_good fl_N_ok kl_N_ok nofun (Nat.le_of_ble_eq_true rfl) ?_
  intro p e s m args below meth c X
  refine AW.run X N_output_d 0 1 rfl ?_
  refine AW.if_lt X (N_output_d.d 1 rfl) (fun q1 => absurd q1 (nI_pos (by omega))) (fun q1 => ?_)
  refine AW.run X N_output_d 2 2 rfl ?_
  refine AW.icmp_lt X (N_output_d.d 4 rfl) (fun q4 => ?_) (fun q4 => absurd ((nI_ltI (a := j) (b := 4) (by omega) (by decide)).mpr hj) q4)
  refine AW.run X N_output_d 10 3 rfl ?_
  refine AW.cl3 (j := j) X rfl hj (N_output_d.d 13 rfl) ?_
  exact AW.iret X (N_output_d.d 14 rfl) (Nat.le_of_ble_eq_true rfl) (Nat.le_of_ble_eq_true rfl) ⟨rfl, rfl⟩

set_option maxHeartbeats 4000000 in
set_option maxRecDepth 100000 in
theorem N_isTold0_m {l : Launch} {G : ax_G} (S : x_S) (tl : List va_E) (i o n : Nat) (hi : 1 ≤ i ∧ i ≤ 3) (ho : 1 ≤ o ∧ o ≤ 4) (hc : S.1 2 = nI n) (hn : n ≤ 96) :
    AM l VV G N_isTold_y N_isTold_c 4 (some .boolean) 2 0 0 [.ref 132, .int (nI 0), .int (nI i), .int (nI o)] (x_hC S tl) (fun v h' => v = some (.int (bI (dc (tp_S2 (S.2.1 1) n i o o)))) ∧ h' = x_hC S tl) := by
  refine AM.of (pl := pl_N) (by decide) v_good fl_N_ok kl_N_ok nofun (Nat.le_of_ble_eq_true rfl) ?_
  intro p e s m args below meth c X
  refine AW.run X N_isTold_d 0 1 rfl ?_
  refine AW.tableIn X (N_isTold_d.d 1 rfl) (by decide) (by decide) (off := 31) (by decide) ?_
  refine AW.run X N_isTold_d 2 4 rfl ?_
  refine AW.callV (As := [.int (nI i), .int (nI o)]) X (T_saysSamples_m S tl i o n hi ho hc hn) cb_N_179 rfl rfl T_saysSamples_im T_saysSamples_se rfl ⟨Nat.le_of_ble_eq_true rfl, Nat.le_of_ble_eq_true rfl⟩ (Nat.le_of_ble_eq_true rfl) ⟨Nat.le_of_ble_eq_true rfl, Nat.le_of_ble_eq_true rfl⟩ (N_isTold_d.d 6 rfl) (fun v h' q => ?_)
  obtain ⟨rfl, rfl⟩ := q
  exact AW.zret X (bI_nar _) (N_isTold_d.d 7 rfl) (Nat.le_of_ble_eq_true rfl) (Nat.le_of_ble_eq_true rfl) ⟨rfl, rfl⟩

set_option maxHeartbeats 4000000 in
set_option maxRecDepth 100000 in
theorem N_isTold2_m {l : Launch} {G : ax_G} (S : x_S) (tl : List va_E) (i o n : Nat) (ho : o ≤ 4) (hc : S.1 2 = nI n) (hn : n ≤ 96) :
    AM l VV G N_isTold_y N_isTold_c 4 (some .boolean) 2 0 0 [.ref 132, .int (nI 2), .int (nI i), .int (nI o)] (x_hC S tl) (fun v h' => v = some (.int (bI (dc (tp_W (S.2.1 1) n o)))) ∧ h' = x_hC S tl) := by
  refine AM.of (pl := pl_N) (by decide) v_good fl_N_ok kl_N_ok nofun (Nat.le_of_ble_eq_true rfl) ?_
  intro p e s m args below meth c X
  refine AW.run X N_isTold_d 0 1 rfl ?_
  refine AW.tableIn X (N_isTold_d.d 1 rfl) (by decide) (by decide) (off := 41) (by decide) ?_
  refine AW.run X N_isTold_d 8 3 rfl ?_
  refine AW.callV (As := [.int (nI o)]) X (T_saysPowers_m S tl o n ho hc hn) cb_N_183 rfl rfl T_saysPowers_im T_saysPowers_se rfl ⟨Nat.le_of_ble_eq_true rfl, Nat.le_of_ble_eq_true rfl⟩ (Nat.le_of_ble_eq_true rfl) ⟨Nat.le_of_ble_eq_true rfl, Nat.le_of_ble_eq_true rfl⟩ (N_isTold_d.d 11 rfl) (fun v h' q => ?_)
  obtain ⟨rfl, rfl⟩ := q
  exact AW.zret X (bI_nar _) (N_isTold_d.d 12 rfl) (Nat.le_of_ble_eq_true rfl) (Nat.le_of_ble_eq_true rfl) ⟨rfl, rfl⟩

set_option maxHeartbeats 4000000 in
set_option maxRecDepth 100000 in
theorem N_isTold3_m {l : Launch} {G : ax_G} (S : x_S) (tl : List va_E) (i o n m0 : Nat) (tk gv : Nat → Int32) (ho : o ≤ 4) (hc : S.1 2 = nI n) (hn : n ≤ 96) (hm : S.1 1 = nI m0) (hm0 : m0 ≤ 24) (hf : f_F (x_hC S tl) (S.2.2.1 0) tk gv m0) :
    AM l VV G N_isTold_y N_isTold_c 4 (some .boolean) 2 0 0 [.ref 132, .int (nI 3), .int (nI i), .int (nI o)] (x_hC S tl) (fun v h' => ∃ K, tp_K (S.2.1 1) n K ∧ v = some (.int (bI (dc (tp_Z4 (S.2.1 1) tk gv n m0 (nI o) K (K - 1))))) ∧ h' = x_hC S tl) := by
  refine AM.of (pl := pl_N) (by decide) v_good fl_N_ok kl_N_ok nofun (Nat.le_of_ble_eq_true rfl) ?_
  intro p e s m args below meth c X
  refine AW.run X N_isTold_d 0 1 rfl ?_
  refine AW.tableIn X (N_isTold_d.d 1 rfl) (by decide) (by decide) (off := 50) (by decide) ?_
  refine AW.run X N_isTold_d 13 7 rfl ?_
  rw [hm]
  refine AW.callV (As := [.int (nI o), .ref 136, .int (nI m0)]) X (T_saysStitched_m S tl o n m0 tk gv ho hc hn hm0 hf) cb_N_186 rfl rfl T_saysStitched_im T_saysStitched_se rfl ⟨Nat.le_of_ble_eq_true rfl, Nat.le_of_ble_eq_true rfl⟩ (Nat.le_of_ble_eq_true rfl) ⟨Nat.le_of_ble_eq_true rfl, Nat.le_of_ble_eq_true rfl⟩ (N_isTold_d.d 20 rfl) (fun v h' q => ?_)
  obtain ⟨K, hK, rfl, rfl⟩ := q
  exact AW.zret X (bI_nar _) (N_isTold_d.d 21 rfl) (Nat.le_of_ble_eq_true rfl) (Nat.le_of_ble_eq_true rfl) ⟨K, hK, rfl, rfl⟩

set_option maxHeartbeats 4000000 in
set_option maxRecDepth 100000 in
theorem N_isTold4_m {l : Launch} {G : ax_G} (S : x_S) (tl : List va_E) (i o n : Nat) (hi : 1 ≤ i ∧ i ≤ 4) (ho : 1 ≤ o ∧ o ≤ 4) (hc : S.1 2 = nI n) (hn : n ≤ 96) :
    AM l VV G N_isTold_y N_isTold_c 4 (some .boolean) 2 0 0 [.ref 132, .int (nI 4), .int (nI i), .int (nI o)] (x_hC S tl) (fun v h' => v = some (.int (bI (dc (tp_P (S.2.1 1) n (i + o) (i + o))))) ∧ h' = x_hC S tl) := by
  refine AM.of (pl := pl_N) (by decide) v_good fl_N_ok kl_N_ok nofun (Nat.le_of_ble_eq_true rfl) ?_
  intro p e s m args below meth c X
  refine AW.run X N_isTold_d 0 1 rfl ?_
  refine AW.tableOut X (N_isTold_d.d 1 rfl) (by decide) ?_
  refine AW.run X N_isTold_d 22 4 rfl ?_
  refine AW.callV (As := [.int (nI i), .int (nI o)]) X (T_saysProgram_m S tl i o n hi ho hc hn) cb_N_190 rfl rfl T_saysProgram_im T_saysProgram_se rfl ⟨Nat.le_of_ble_eq_true rfl, Nat.le_of_ble_eq_true rfl⟩ (Nat.le_of_ble_eq_true rfl) ⟨Nat.le_of_ble_eq_true rfl, Nat.le_of_ble_eq_true rfl⟩ (N_isTold_d.d 26 rfl) (fun v h' q => ?_)
  obtain ⟨rfl, rfl⟩ := q
  exact AW.zret X (bI_nar _) (N_isTold_d.d 27 rfl) (Nat.le_of_ble_eq_true rfl) (Nat.le_of_ble_eq_true rfl) ⟨rfl, rfl⟩

set_option maxHeartbeats 4000000 in
set_option maxRecDepth 100000 in
theorem M_tell_m {l : Launch} {G : ax_G} (S : x_S) (M : x_M) (tl : List va_E) (w : Int32) (n : Nat) (hn : n ≤ 96) (hc : M.1 2 = nI n) :
    AM l VV G M_tell_y M_tell_c 2 (some .int) 1 0 0 [.ref 153, .int w] (x_hM S M tl) (fun v h' => if ¬ (-1073741824 ≤ w.toInt ∧ w.toInt ≤ 1073741824) then v = some (.int 0) ∧ h' = x_hM S (y_i M 0 1) tl else if n = 96 then v = some (.int 0) ∧ h' = x_hM S (y_i M 0 2) tl else v = some (.int (nI (n + 1))) ∧ h' = x_hM S (y_i (y_a (y_i M 0 0) 1 n w) 2 (nI (n + 1))) tl) := by
  refine AM.of (pl := pl_M) (by decide) v_good fl_M_ok kl_M_ok nofun (Nat.le_of_ble_eq_true rfl) ?_
  intro p e s m args below meth c X
  refine AW.run X M_tell_d 0 5 rfl ?_
  rw [i_l, show (-1073741824 : Int64) = lZ (-1073741824) from by decide, show (1073741824 : Int64) = lZ 1073741824 from by decide]
  refine AW.callS (As := [.long (lZ (w).toInt), .long (lZ (-1073741824)), .long (lZ 1073741824)]) X (M_isIn_m (w).toInt (-1073741824) 1073741824 (zL_of_i _) ⟨by decide, by decide⟩ ⟨by decide, by decide⟩) cb_M_92 M_isIn_st rfl ⟨Nat.le_of_ble_eq_true rfl, Nat.le_of_ble_eq_true rfl⟩ (Nat.le_of_ble_eq_true rfl) ⟨Nat.le_of_ble_eq_true rfl, Nat.le_of_ble_eq_true rfl⟩ (M_tell_d.d 5 rfl) (fun v h' q => ?_)
  obtain ⟨rfl, rfl⟩ := q
  rw [dc_dec]
  refine AW.if_ne X (M_tell_d.d 6 rfl) (fun q6 => ?_) (fun q6 => ?_)
  · refine AW.run X M_tell_d 9 3 rfl ?_
    refine AW.icmp_ne X (M_tell_d.d 12 rfl) (fun q12 => ?_) (fun q12 => ?_)
    · refine AW.run X M_tell_d 15 1 rfl ?_
      refine AW.callV (As := [.int 0]) X (M_refused_m S M tl 0) cb_M_84 rfl rfl M_refused_im M_refused_se rfl ⟨Nat.le_of_ble_eq_true rfl, Nat.le_of_ble_eq_true rfl⟩ (Nat.le_of_ble_eq_true rfl) ⟨Nat.le_of_ble_eq_true rfl, Nat.le_of_ble_eq_true rfl⟩ (M_tell_d.d 16 rfl) (fun v h' q => ?_)
      obtain ⟨rfl, rfl⟩ := q
      refine AW.if_eq X (M_tell_d.d 17 rfl) (fun q17 => ?_) (fun q17 => absurd q17 (by decide))
      have hlt : n < 96 := by
        have : n ≠ 96 := fun z => q12 (by rw [hc, z]; rfl)
        omega
      refine AW.run X M_tell_d 20 5 rfl ?_
      refine AW.ms1 (j := n) X hc hlt (M_tell_d.d 25 rfl) ?_
      refine AW.run X M_tell_d 26 5 rfl ?_
      refine AW.mp2 X (M_tell_d.d 31 rfl) ?_
      refine AW.run X M_tell_d 32 2 rfl ?_
      exact AW.iret X (M_tell_d.d 34 rfl) (Nat.le_of_ble_eq_true rfl) (Nat.le_of_ble_eq_true rfl) (by rw [if_neg (fun z => z (dq_t.mp q6)), if_neg (by omega)]; exact ⟨by show some (Value.int (M.1 2 + Int32.ofInt 1)) = _; rw [hc, nI_o1], by rw [← nI_o1, ← hc]; rfl⟩)
    · refine AW.run X M_tell_d 13 1 rfl ?_
      refine AW.goto X (M_tell_d.d 14 rfl) ?_
      refine AW.callV (As := [.int 2]) X (M_refused_m S M tl 2) cb_M_84 rfl rfl M_refused_im M_refused_se rfl ⟨Nat.le_of_ble_eq_true rfl, Nat.le_of_ble_eq_true rfl⟩ (Nat.le_of_ble_eq_true rfl) ⟨Nat.le_of_ble_eq_true rfl, Nat.le_of_ble_eq_true rfl⟩ (M_tell_d.d 16 rfl) (fun v h' q => ?_)
      obtain ⟨rfl, rfl⟩ := q
      refine AW.if_eq X (M_tell_d.d 17 rfl) (fun q17 => absurd q17 (by decide)) (fun q17 => ?_)
      refine AW.run X M_tell_d 18 1 rfl ?_
      exact AW.iret X (M_tell_d.d 19 rfl) (Nat.le_of_ble_eq_true rfl) (Nat.le_of_ble_eq_true rfl) (by rw [if_neg (fun z => z (dq_t.mp q6)), if_pos (ceq q12 hc)]; exact ⟨rfl, rfl⟩)
  · refine AW.run X M_tell_d 7 1 rfl ?_
    refine AW.goto X (M_tell_d.d 8 rfl) ?_
    refine AW.callV (As := [.int 1]) X (M_refused_m S M tl 1) cb_M_84 rfl rfl M_refused_im M_refused_se rfl ⟨Nat.le_of_ble_eq_true rfl, Nat.le_of_ble_eq_true rfl⟩ (Nat.le_of_ble_eq_true rfl) ⟨Nat.le_of_ble_eq_true rfl, Nat.le_of_ble_eq_true rfl⟩ (M_tell_d.d 16 rfl) (fun v h' q => ?_)
    obtain ⟨rfl, rfl⟩ := q
    refine AW.if_eq X (M_tell_d.d 17 rfl) (fun q17 => absurd q17 (by decide)) (fun q17 => ?_)
    refine AW.run X M_tell_d 18 1 rfl ?_
    exact AW.iret X (M_tell_d.d 19 rfl) (Nat.le_of_ble_eq_true rfl) (Nat.le_of_ble_eq_true rfl) (by rw [if_pos (dq_f.mp q6)]; exact ⟨rfl, rfl⟩)

set_option maxHeartbeats 4000000 in
set_option maxRecDepth 100000 in
theorem M_input_m {l : Launch} {G : ax_G} (S : x_S) (M : x_M) (tl : List va_E) (w x : Int32) :
    AM l VV G M_input_y M_input_c 4 (some .int) 1 0 0 [.ref 153, .int x, .int w] (x_hM S M tl) (fun v h' => if (0 ≤ x.toInt ∧ x.toInt ≤ 3) ∧ (-1073741824 ≤ w.toInt ∧ w.toInt ≤ 1073741824) then v = some (.int (M.2.1 2 x.toNatClampNeg)) ∧ h' = x_hM S (y_a (y_i M 0 0) 2 x.toNatClampNeg w) tl else v = some (.int 0) ∧ h' = x_hM S (y_i M 0 1) tl) := by
  refine AM.of (pl := pl_M) (by decide) v_good fl_M_ok kl_M_ok nofun (Nat.le_of_ble_eq_true rfl) ?_
  intro p e s m args below meth c X
  refine AW.run X M_input_d 0 5 rfl ?_
  rw [i_l, lZ_c0, show (3 : Int64) = lZ 3 from by decide]
  refine AW.callS (As := [.long (lZ (x).toInt), .long (lZ (0)), .long (lZ 3)]) X (M_isIn_m (x).toInt (0) 3 (zL_of_i _) ⟨by decide, by decide⟩ ⟨by decide, by decide⟩) cb_M_92 M_isIn_st rfl ⟨Nat.le_of_ble_eq_true rfl, Nat.le_of_ble_eq_true rfl⟩ (Nat.le_of_ble_eq_true rfl) ⟨Nat.le_of_ble_eq_true rfl, Nat.le_of_ble_eq_true rfl⟩ (M_input_d.d 5 rfl) (fun v h' q => ?_)
  obtain ⟨rfl, rfl⟩ := q
  rw [dc_dec]
  refine AW.if_eq X (M_input_d.d 6 rfl) (fun q6 => ?_) (fun q6 => ?_)
  · refine AW.run X M_input_d 13 1 rfl ?_
    refine AW.goto X (M_input_d.d 14 rfl) ?_
    refine AW.callV (As := [.int 1]) X (M_refused_m S M tl 1) cb_M_84 rfl rfl M_refused_im M_refused_se rfl ⟨Nat.le_of_ble_eq_true rfl, Nat.le_of_ble_eq_true rfl⟩ (Nat.le_of_ble_eq_true rfl) ⟨Nat.le_of_ble_eq_true rfl, Nat.le_of_ble_eq_true rfl⟩ (M_input_d.d 16 rfl) (fun v h' q => ?_)
    obtain ⟨rfl, rfl⟩ := q
    refine AW.if_eq X (M_input_d.d 17 rfl) (fun q17 => absurd q17 (by decide)) (fun q17 => ?_)
    refine AW.run X M_input_d 18 1 rfl ?_
    exact AW.iret X (M_input_d.d 19 rfl) (Nat.le_of_ble_eq_true rfl) (Nat.le_of_ble_eq_true rfl) (by rw [if_neg (fun z => dq_f.mp q6 z.1)]; exact ⟨rfl, rfl⟩)
  · refine AW.run X M_input_d 7 4 rfl ?_
    rw [i_l, show (-1073741824 : Int64) = lZ (-1073741824) from by decide, show (1073741824 : Int64) = lZ 1073741824 from by decide]
    refine AW.callS (As := [.long (lZ (w).toInt), .long (lZ (-1073741824)), .long (lZ 1073741824)]) X (M_isIn_m (w).toInt (-1073741824) 1073741824 (zL_of_i _) ⟨by decide, by decide⟩ ⟨by decide, by decide⟩) cb_M_92 M_isIn_st rfl ⟨Nat.le_of_ble_eq_true rfl, Nat.le_of_ble_eq_true rfl⟩ (Nat.le_of_ble_eq_true rfl) ⟨Nat.le_of_ble_eq_true rfl, Nat.le_of_ble_eq_true rfl⟩ (M_input_d.d 11 rfl) (fun v h' q => ?_)
    obtain ⟨rfl, rfl⟩ := q
    rw [dc_dec]
    refine AW.if_ne X (M_input_d.d 12 rfl) (fun q12 => ?_) (fun q12 => ?_)
    · refine AW.run X M_input_d 15 1 rfl ?_
      refine AW.callV (As := [.int 0]) X (M_refused_m S M tl 0) cb_M_84 rfl rfl M_refused_im M_refused_se rfl ⟨Nat.le_of_ble_eq_true rfl, Nat.le_of_ble_eq_true rfl⟩ (Nat.le_of_ble_eq_true rfl) ⟨Nat.le_of_ble_eq_true rfl, Nat.le_of_ble_eq_true rfl⟩ (M_input_d.d 16 rfl) (fun v h' q => ?_)
      obtain ⟨rfl, rfl⟩ := q
      refine AW.if_eq X (M_input_d.d 17 rfl) (fun q17 => ?_) (fun q17 => absurd q17 (by decide))
      have hx := dq_t.mp q6
      have hx2 : x = nI x.toNatClampNeg := i_nat (show x.toInt = (x.toInt.toNat : Int) by omega)
      have hx3 : x.toNatClampNeg < 4 := by show x.toInt.toNat < 4; omega
      refine AW.run X M_input_d 20 3 rfl ?_
      refine AW.ml2 (j := x.toNatClampNeg) X hx2 hx3 (M_input_d.d 23 rfl) ?_
      refine AW.run X M_input_d 24 5 rfl ?_
      refine AW.ms2 (j := x.toNatClampNeg) X hx2 hx3 (M_input_d.d 29 rfl) ?_
      refine AW.run X M_input_d 30 1 rfl ?_
      exact AW.iret X (M_input_d.d 31 rfl) (Nat.le_of_ble_eq_true rfl) (Nat.le_of_ble_eq_true rfl) (by rw [if_pos ⟨hx, dq_t.mp q12⟩]; exact ⟨rfl, rfl⟩)
    · refine AW.run X M_input_d 13 1 rfl ?_
      refine AW.goto X (M_input_d.d 14 rfl) ?_
      refine AW.callV (As := [.int 1]) X (M_refused_m S M tl 1) cb_M_84 rfl rfl M_refused_im M_refused_se rfl ⟨Nat.le_of_ble_eq_true rfl, Nat.le_of_ble_eq_true rfl⟩ (Nat.le_of_ble_eq_true rfl) ⟨Nat.le_of_ble_eq_true rfl, Nat.le_of_ble_eq_true rfl⟩ (M_input_d.d 16 rfl) (fun v h' q => ?_)
      obtain ⟨rfl, rfl⟩ := q
      refine AW.if_eq X (M_input_d.d 17 rfl) (fun q17 => absurd q17 (by decide)) (fun q17 => ?_)
      refine AW.run X M_input_d 18 1 rfl ?_
      exact AW.iret X (M_input_d.d 19 rfl) (Nat.le_of_ble_eq_true rfl) (Nat.le_of_ble_eq_true rfl) (by rw [if_neg (fun z => dq_f.mp q12 z.2)]; exact ⟨rfl, rfl⟩)

set_option maxHeartbeats 4000000 in
set_option maxRecDepth 100000 in
theorem M_output_m {l : Launch} {G : ax_G} (S : x_S) (M : x_M) (tl : List va_E) (x : Int32) :
    AM l VV G M_output_y M_output_c 2 (some .int) 1 0 0 [.ref 153, .int x] (x_hM S M tl) (fun v h' => if 0 ≤ x.toInt ∧ x.toInt ≤ 3 then v = some (.int (M.2.1 3 x.toNatClampNeg)) ∧ h' = x_hM S (y_i M 0 0) tl else v = some (.int 0) ∧ h' = x_hM S (y_i M 0 1) tl) := by
  refine AM.of (pl := pl_M) (by decide) v_good fl_M_ok kl_M_ok nofun (Nat.le_of_ble_eq_true rfl) ?_
  intro p e s m args below meth c X
  refine AW.run X M_output_d 0 5 rfl ?_
  rw [i_l, lZ_c0, show (3 : Int64) = lZ 3 from by decide]
  refine AW.callS (As := [.long (lZ (x).toInt), .long (lZ (0)), .long (lZ 3)]) X (M_isIn_m (x).toInt (0) 3 (zL_of_i _) ⟨by decide, by decide⟩ ⟨by decide, by decide⟩) cb_M_92 M_isIn_st rfl ⟨Nat.le_of_ble_eq_true rfl, Nat.le_of_ble_eq_true rfl⟩ (Nat.le_of_ble_eq_true rfl) ⟨Nat.le_of_ble_eq_true rfl, Nat.le_of_ble_eq_true rfl⟩ (M_output_d.d 5 rfl) (fun v h' q => ?_)
  obtain ⟨rfl, rfl⟩ := q
  rw [dc_dec]
  refine AW.if_eq X (M_output_d.d 6 rfl) (fun q6 => ?_) (fun q6 => ?_)
  · refine AW.run X M_output_d 9 1 rfl ?_
    refine AW.callV (As := [.int 1]) X (M_refused_m S M tl 1) cb_M_84 rfl rfl M_refused_im M_refused_se rfl ⟨Nat.le_of_ble_eq_true rfl, Nat.le_of_ble_eq_true rfl⟩ (Nat.le_of_ble_eq_true rfl) ⟨Nat.le_of_ble_eq_true rfl, Nat.le_of_ble_eq_true rfl⟩ (M_output_d.d 10 rfl) (fun v h' q => ?_)
    obtain ⟨rfl, rfl⟩ := q
    refine AW.if_eq X (M_output_d.d 11 rfl) (fun q11 => absurd q11 (by decide)) (fun q11 => ?_)
    refine AW.run X M_output_d 12 1 rfl ?_
    refine AW.goto X (M_output_d.d 13 rfl) ?_
    exact AW.iret X (M_output_d.d 18 rfl) (Nat.le_of_ble_eq_true rfl) (Nat.le_of_ble_eq_true rfl) (by rw [if_neg (fun z => dq_f.mp q6 z)]; exact ⟨rfl, rfl⟩)
  · refine AW.run X M_output_d 7 1 rfl ?_
    refine AW.goto X (M_output_d.d 8 rfl) ?_
    refine AW.callV (As := [.int 0]) X (M_refused_m S M tl 0) cb_M_84 rfl rfl M_refused_im M_refused_se rfl ⟨Nat.le_of_ble_eq_true rfl, Nat.le_of_ble_eq_true rfl⟩ (Nat.le_of_ble_eq_true rfl) ⟨Nat.le_of_ble_eq_true rfl, Nat.le_of_ble_eq_true rfl⟩ (M_output_d.d 10 rfl) (fun v h' q => ?_)
    obtain ⟨rfl, rfl⟩ := q
    refine AW.if_eq X (M_output_d.d 11 rfl) (fun q11 => ?_) (fun q11 => absurd q11 (by decide))
    have hx := dq_t.mp q6
    have hx2 : x = nI x.toNatClampNeg := i_nat (show x.toInt = (x.toInt.toNat : Int) by omega)
    have hx3 : x.toNatClampNeg < 4 := by show x.toInt.toNat < 4; omega
    refine AW.run X M_output_d 14 3 rfl ?_
    refine AW.ml3 (j := x.toNatClampNeg) X hx2 hx3 (M_output_d.d 17 rfl) ?_
    exact AW.iret X (M_output_d.d 18 rfl) (Nat.le_of_ble_eq_true rfl) (Nat.le_of_ble_eq_true rfl) (by rw [if_pos hx]; exact ⟨rfl, rfl⟩)

set_option maxHeartbeats 4000000 in
set_option maxRecDepth 100000 in
theorem M_of_m {l : Launch} {G : ax_G} (S : x_S) (M : x_M) (tl : List va_E) (f k : Nat) (hk : 96 * f + k < 2304) :
    AM l VV G M_of_y M_of_c 3 (some .long) 0 0 0 [.ref 153, .int (nI f), .int (nI k)] (x_hM S M tl) (fun v h' => v = some (.long (lZ (M.2.1 7 (96 * f + k)).toInt)) ∧ h' = x_hM S M tl) := by
  refine AM.of (pl := pl_M) (by decide) v_good fl_M_ok kl_M_ok nofun (Nat.le_of_ble_eq_true rfl) ?_
  intro p e s m args below meth c X
  refine AW.run X M_of_d 0 7 rfl ?_
  refine AW.ml7 (j := 96 * f + k) X (by rw [show (Int8.ofInt 96).toInt32 * nI f = nI (96 * f) from pk_mul 96 f, nI_add]) hk (M_of_d.d 7 rfl) ?_
  refine AW.run X M_of_d 8 1 rfl ?_
  exact AW.lret X (M_of_d.d 9 rfl) (Nat.le_of_ble_eq_true rfl) (Nat.le_of_ble_eq_true rfl) ⟨by rw [i_l], rfl⟩

set_option maxHeartbeats 4000000 in
set_option maxRecDepth 100000 in
theorem M_inputOf_m {l : Launch} {G : ax_G} (S : x_S) (M : x_M) (tl : List va_E) (k : Nat) (x : Int) (hk : k < 4) :
    AM l VV G M_inputOf_y M_inputOf_c 4 (some .long) 0 0 0 [.ref 153, .int (nI k), .long (lZ x)] (x_hM S M tl) (fun v h' => v = some (.long (lZ (if k = 0 then x else (M.2.1 2 k).toInt))) ∧ h' = x_hM S M tl) := by
  refine AM.of (pl := pl_M) (by decide) v_good fl_M_ok kl_M_ok nofun (Nat.le_of_ble_eq_true rfl) ?_
  intro p e s m args below meth c X
  refine AW.run X M_inputOf_d 0 1 rfl ?_
  refine AW.if_ne X (M_inputOf_d.d 1 rfl) (fun q1 => ?_) (fun q1 => ?_)
  · refine AW.run X M_inputOf_d 4 3 rfl ?_
    refine AW.ml2 (j := k) X rfl hk (M_inputOf_d.d 7 rfl) ?_
    refine AW.run X M_inputOf_d 8 1 rfl ?_
    exact AW.lret X (M_inputOf_d.d 9 rfl) (Nat.le_of_ble_eq_true rfl) (Nat.le_of_ble_eq_true rfl) ⟨by rw [i_l, if_neg (fun z => q1 (by rw [z]; rfl))], rfl⟩
  · refine AW.run X M_inputOf_d 2 1 rfl ?_
    refine AW.goto X (M_inputOf_d.d 3 rfl) ?_
    exact AW.lret X (M_inputOf_d.d 9 rfl) (Nat.le_of_ble_eq_true rfl) (Nat.le_of_ble_eq_true rfl) ⟨by rw [if_pos (ceq q1 rfl (show (0 : Int32) = nI 0 from rfl))], rfl⟩

set_option maxHeartbeats 4000000 in
set_option maxRecDepth 100000 in
theorem M_isGood_m {l : Launch} {G : ax_G} (S : x_S) (M : x_M) (tl : List va_E)  :
    AM l VV G M_isGood_y M_isGood_c 1 (some .boolean) 0 0 0 [.ref 153] (x_hM S M tl) (fun v h' => v = some (.int (bI (dc (M.1 3 = -1)))) ∧ h' = x_hM S M tl) := by
  refine AM.of (pl := pl_M) (by decide) v_good fl_M_ok kl_M_ok nofun (Nat.le_of_ble_eq_true rfl) ?_
  intro p e s m args below meth c X
  refine AW.run X M_isGood_d 0 3 rfl ?_
  refine AW.icmp_ne X (M_isGood_d.d 3 rfl) (fun q3 => ?_) (fun q3 => ?_)
  · refine AW.run X M_isGood_d 6 1 rfl ?_
    exact AW.zret X n_0 (M_isGood_d.d 7 rfl) (Nat.le_of_ble_eq_true rfl) (Nat.le_of_ble_eq_true rfl) ⟨vd_f q3, rfl⟩
  · refine AW.run X M_isGood_d 4 1 rfl ?_
    refine AW.goto X (M_isGood_d.d 5 rfl) ?_
    exact AW.zret X n_1 (M_isGood_d.d 7 rfl) (Nat.le_of_ble_eq_true rfl) (Nat.le_of_ble_eq_true rfl) ⟨vd_t q3, rfl⟩

set_option maxHeartbeats 4000000 in
set_option maxRecDepth 100000 in
theorem M_fail_m {l : Launch} {G : ax_G} (S : x_S) (M : x_M) (tl : List va_E) (k : Int32) :
    AM l VV G M_fail_y M_fail_c 2 none 1 0 0 [.ref 153, .int k] (x_hM S M tl) (fun v h' => v = none ∧ h' = (if M.1 3 = -1 then x_hM S (y_i (y_i M 3 k) 4 (M.1 11)) tl else x_hM S M tl)) := by
  refine AM.of (pl := pl_M) (by decide) v_good fl_M_ok kl_M_ok nofun (Nat.le_of_ble_eq_true rfl) ?_
  intro p e s m args below meth c X
  refine AW.run X M_fail_d 0 3 rfl ?_
  refine AW.icmp_ne X (M_fail_d.d 3 rfl) (fun q3 => ?_) (fun q3 => ?_)
  · exact AW.vret X (M_fail_d.d 9 rfl) (Nat.le_of_ble_eq_true rfl) (Nat.le_of_ble_eq_true rfl) ⟨rfl, by rw [if_neg (show ¬ M.1 3 = -1 from q3)]⟩
  · refine AW.run X M_fail_d 4 4 rfl ?_
    refine AW.callV (As := [.int k, .int (M.1 11)]) X (M_tellFault_m S M tl k (M.1 11)) cb_M_153 rfl rfl M_tellFault_im M_tellFault_se rfl ⟨Nat.le_of_ble_eq_true rfl, Nat.le_of_ble_eq_true rfl⟩ (Nat.le_of_ble_eq_true rfl) ⟨Nat.le_of_ble_eq_true rfl, Nat.le_of_ble_eq_true rfl⟩ (M_fail_d.d 8 rfl) (fun v h' q => ?_)
    obtain ⟨rfl, rfl⟩ := q
    exact AW.vret X (M_fail_d.d 9 rfl) (Nat.le_of_ble_eq_true rfl) (Nat.le_of_ble_eq_true rfl) ⟨rfl, by rw [if_pos (show M.1 3 = -1 from q3)]⟩

