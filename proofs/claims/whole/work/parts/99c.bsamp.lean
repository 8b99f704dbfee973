theorem iZ_d8 {a : Int} (h : 0 ≤ a ∧ a < 2147483648) : iZ a / nI 8 = iZ (a / 8) := by
  obtain ⟨n, rfl⟩ := Int.eq_ofNat_of_zero_le h.1
  rw [show iZ (n : Int) = nI n from (iZ_n n).symm, pk_div (by omega) (by decide) (by decide), iZ_n]
  rfl
theorem ln_s {tl t : List va_E} {c : va_E} : (tl ++ ([c] ++ t))[tl.length]? = some c := by
  rw [List.getElem?_append_right (Nat.le_refl _), Nat.sub_self]; rfl
theorem lt_of {h : List va_E} {k : Nat} {c : va_E} (e : h[k]? = some c) : k < h.length := (List.getElem?_eq_some_iff.mp e).1

set_option maxHeartbeats 4000000 in
set_option maxRecDepth 100000 in
theorem S_bytesNeeded_m {l : Launch} {G : ax_G} {h : List va_E} (b i m L : Nat) (T f : Nat → Int32) (hT : h[b]? = some (.inl (0, L, .inl T))) (hf : ∀ j, j < L → T j = f j) (hi : 1 ≤ i ∧ i ≤ 3) (hm : 1 ≤ m ∧ m ≤ 4) (hS : tp_S2 f L i m m) :
    AM l VV G S_bytesNeeded_y S_bytesNeeded_c 5 (some .int) 0 0 0 [.int (nI i), .int (nI m), .ref b] (h) (fun v h' => v = some (.int (iZ (tp_y f i m))) ∧ h' = h) := by
  refine AM.of (pl := pl_S) (by decide) v_good fl_S_ok kl_S_ok nofun (Nat.le_of_ble_eq_true rfl) ?_
  intro p0v e0v s0v m0v args below meth c0v X
  have hL : L = 5 * i + 1 + 4 * m := hS.1.1
  refine AW.run X S_bytesNeeded_d 0 5 rfl ?_
  refine AW.iald (j := 5 * i) X hT rfl (pk_mul 5 i) (by omega) (by omega) (S_bytesNeeded_d.d 5 rfl) ?_
  rw [hf _ (by omega), iZ_of (f (5 * i)), iZ_n m]
  refine AW.run X S_bytesNeeded_d 6 1 rfl ?_
  rw [iZ_mul]
  refine AW.run X S_bytesNeeded_d 7 3 rfl ?_
  have L11 : ∀ (t1 k : Nat), k ≤ i → i - k < t1 → AW p0v l e0v (ax_R 0 0 0) s0v m0v args below meth c0v VV G 5 (h) 0 0 (MQ below (ax_Q VV G (fun v h' => v = some (.int (iZ (tp_y f i m))) ∧ h' = h)) args s0v 0 0 (fun q => G.bs ≤ q)) 11 [(4, .int (nI k)), (3, .int (iZ (tp_n f m k * (f (5 * i)).toInt))), (0, .int (nI i)), (1, .int (iZ (m : Int))), (2, .ref b)] [] := by
    intro t1
    induction t1 with
    | zero => intro k a1 a2; exact absurd a2 (by omega)
    | succ t1 ih1 =>
      intro k a1 a2
      refine AW.run X S_bytesNeeded_d 10 2 rfl ?_
      refine AW.icmp_ge X (S_bytesNeeded_d.d 12 rfl) (fun q12 => ?_) (fun q12 => ?_)
      · refine AW.run X S_bytesNeeded_d 25 2 rfl ?_
        have e9 : k = i := by have := cge q12; omega
        subst e9
        obtain ⟨b1, b2, b3, b4, b5, b6⟩ := tp_y_bd hi hm hS
        refine AW.run X S_bytesNeeded_d 27 2 rfl ?_
        rw [show (Int8.ofInt 7).toInt32 = iZ 7 from rfl, iZ_add, show (Int8.ofInt 8).toInt32 = nI 8 from rfl]
        refine AW.idiv X (S_bytesNeeded_d.d 29 rfl) (by decide) ?_
        rw [iZ_d8 ⟨by omega, by omega⟩]
        exact AW.iret X (S_bytesNeeded_d.d 30 rfl) (Nat.le_of_ble_eq_true rfl) (Nat.le_of_ble_eq_true rfl) ⟨rfl, rfl⟩
      · have hk : k < i := clt q12
        refine AW.run X S_bytesNeeded_d 13 7 rfl ?_
        refine AW.iald (j := 5 * k + 2) X hT rfl (by rw [show Int32.ofInt 5 * nI k = nI (5 * k) from pk_mul 5 k]; exact nI_add (5 * k) 2) (by omega) (by omega) (S_bytesNeeded_d.d 20 rfl) ?_
        rw [hf _ (by omega), iZ_of (f (5 * k + 2))]
        refine AW.run X S_bytesNeeded_d 21 1 rfl ?_
        rw [iZ_mul]
        refine AW.run X S_bytesNeeded_d 22 2 rfl ?_
        refine AW.goto X (S_bytesNeeded_d.d 24 rfl) ?_
        rw [nI_o1, show tp_n f m k * (f (5 * i)).toInt * (f (5 * k + 2)).toInt = tp_n f m (k + 1) * (f (5 * i)).toInt from by show _ = tp_n f m k * _ * _; rw [Int.mul_assoc, Int.mul_comm (f (5 * i)).toInt, ← Int.mul_assoc]]
        exact ih1 (k + 1) (by omega) (by omega)
  exact L11 (i + 1) 0 (by omega) (by omega)

set_option maxHeartbeats 4000000 in
set_option maxRecDepth 100000 in
theorem N_builtSamplesF_m {l : Launch} {G : ax_G} (S : x_S) (tl : List va_E) (b i m L r wd : Nat) (T f : Nat → Int32) (hT : tl[b]? = some (.inl (0, L, .inl T))) (hf : ∀ j, j < L → T j = f j) (hi : 1 ≤ i ∧ i ≤ 3) (hm : 1 ≤ m ∧ m ≤ 4) (hS : tp_S2 f L i m m) (hr : S.1 0 = nI r) (hr8 : r ≤ 8192) (hy0 : (r : Int) < tp_y f i m) :
    AM l VV G N_builtSamples_y N_builtSamples_c 5 (some (.object "NumberFunctions$Function")) 3 5 8214 [.ref 132, .int (nI i), .int (nI m), .ref (153 + b)] (x_hC S tl) (fun v h' => v = some .null ∧ h' = x_hC (x_i (x_i S 3 2) 4 (iZ (tp_y f i m))) tl) := by
  refine AM.of (pl := pl_N) (by decide) v_good fl_N_ok kl_N_ok nofun (Nat.le_of_ble_eq_true rfl) ?_
  intro p0v e0v s0v m0v args below meth c0v X
  have hL : L = 5 * i + 1 + 4 * m := hS.1.1
  obtain ⟨b1, b2, b3, b4, b5, b6⟩ := tp_y_bd hi hm hS
  have hy : 0 ≤ tp_y f i m ∧ tp_y f i m ≤ 2097152 := by unfold tp_y; omega
  refine AW.run X N_builtSamples_d 0 3 rfl ?_
  refine AW.callS (As := [.int (nI i), .int (nI m), .ref (153 + b)]) X (S_bytesNeeded_m (153 + b) i m L T f ((x_tl _ _ b).trans hT) hf hi hm hS) cb_N_193 S_bytesNeeded_st rfl ⟨Nat.le_of_ble_eq_true rfl, Nat.le_of_ble_eq_true rfl⟩ (Nat.le_of_ble_eq_true rfl) ⟨Nat.le_of_ble_eq_true rfl, Nat.le_of_ble_eq_true rfl⟩ (N_builtSamples_d.d 3 rfl) (fun v h' q => ?_)
  obtain ⟨rfl, rfl⟩ := q
  refine AW.run X N_builtSamples_d 4 3 rfl ?_
  refine AW.run X N_builtSamples_d 7 1 rfl ?_
  rw [hr, iZ_n r]
  refine AW.icmp_le X (N_builtSamples_d.d 8 rfl) (fun q8 => absurd ((iZ_le (a := tp_y f i m) (b := (r : Int)) ⟨by omega, by omega⟩ ⟨by omega, by omega⟩).mp q8) (by omega)) (fun q8 => ?_)
  refine AW.run X N_builtSamples_d 9 4 rfl ?_
  refine AW.callV (As := [.int 2, .int (iZ (tp_y f i m))]) X (U_set_m S tl 2 (iZ (tp_y f i m))) cb_N_108 rfl rfl U_set_im U_set_se rfl ⟨Nat.le_of_ble_eq_true rfl, Nat.le_of_ble_eq_true rfl⟩ (Nat.le_of_ble_eq_true rfl) ⟨Nat.le_of_ble_eq_true rfl, Nat.le_of_ble_eq_true rfl⟩ (N_builtSamples_d.d 13 rfl) (fun v h' q => ?_)
  obtain ⟨rfl, rfl⟩ := q
  refine AW.run X N_builtSamples_d 14 1 rfl ?_
  exact AW.aret X none (N_builtSamples_d.d 15 rfl) (Nat.le_of_ble_eq_true rfl) (Nat.le_of_ble_eq_true rfl) ⟨rfl, rfl⟩

set_option maxHeartbeats 4000000 in
set_option maxRecDepth 100000 in
theorem N_builtSamplesS_m {l : Launch} {G : ax_G} (S : x_S) (tl : List va_E) (b i m L r wd : Nat) (T f : Nat → Int32) (hT : tl[b]? = some (.inl (0, L, .inl T))) (hf : ∀ j, j < L → T j = f j) (hi : 1 ≤ i ∧ i ≤ 3) (hm : 1 ≤ m ∧ m ≤ 4) (hS : tp_S2 f L i m m) (hr : S.1 0 = nI r) (hr8 : r ≤ 8192) (hw : f (5 * i) = nI wd) (hfit : ∀ j, j < 8192 → fits .byte (.int (S.2.1 0 j)) = true) (hy0 : tp_y f i m ≤ (r : Int)) :
    AM l VV G N_builtSamples_y N_builtSamples_c 5 (some (.object "NumberFunctions$Function")) 3 5 8214 [.ref 132, .int (nI i), .int (nI m), .ref (153 + b)] (x_hC S tl) (fun v h' => v = some (.ref (153 + tl.length)) ∧ ∃ Bt, h' = x_hC S (tl ++ [sOb (153 + (tl.length + 1)) (tl.length + 2) (153 + b) i m wd, .inl (1, (tp_y f i m).toNat, .inl Bt), .inl (0, 3, .inl (fun _ => 0)), .inl (0, 3, .inl (fun _ => 0)), .inl (2, 8, .inr (.inl (fun _ => 0)))]) ∧ ∀ j, j < (tp_y f i m).toNat → Bt j = S.2.1 0 j) := by
  refine AM.of (pl := pl_N) (by decide) v_good fl_N_ok kl_N_ok nofun (Nat.le_of_ble_eq_true rfl) ?_
  intro p0v e0v s0v m0v args below meth c0v X
  have hL : L = 5 * i + 1 + 4 * m := hS.1.1
  obtain ⟨b1, b2, b3, b4, b5, b6⟩ := tp_y_bd hi hm hS
  have hy : 0 ≤ tp_y f i m ∧ tp_y f i m ≤ 2097152 := by unfold tp_y; omega
  have hyN : iZ (tp_y f i m) = nI (tp_y f i m).toNat := by rw [iZ_n, Int.toNat_of_nonneg hy.1]
  have hbl := lt_of hT
  refine AW.run X N_builtSamples_d 0 3 rfl ?_
  refine AW.callS (As := [.int (nI i), .int (nI m), .ref (153 + b)]) X (S_bytesNeeded_m (153 + b) i m L T f ((x_tl _ _ b).trans hT) hf hi hm hS) cb_N_193 S_bytesNeeded_st rfl ⟨Nat.le_of_ble_eq_true rfl, Nat.le_of_ble_eq_true rfl⟩ (Nat.le_of_ble_eq_true rfl) ⟨Nat.le_of_ble_eq_true rfl, Nat.le_of_ble_eq_true rfl⟩ (N_builtSamples_d.d 3 rfl) (fun v h' q => ?_)
  obtain ⟨rfl, rfl⟩ := q
  refine AW.run X N_builtSamples_d 4 3 rfl ?_
  refine AW.run X N_builtSamples_d 7 1 rfl ?_
  rw [hr, iZ_n r]
  refine AW.icmp_le X (N_builtSamples_d.d 8 rfl) (fun q8 => ?_) (fun q8 => absurd ((iZ_le (a := tp_y f i m) (b := (r : Int)) ⟨by omega, by omega⟩ ⟨by omega, by omega⟩).mpr hy0) q8)
  refine AW.new (ci := 5) (fs := [.null, .int 0, .null, .null, .null, .int 0, .int 0, .null]) (ty := Ty_S) X rfl L_S.1 (by decide +kernel) (mt2 (List.mem_of_getElem? (i := 151) rfl)) N_S I_S (fun j hj => by
    have : j = 0 ∨ j = 1 ∨ j = 2 ∨ j = 3 ∨ j = 4 ∨ j = 5 ∨ j = 6 ∨ j = 7 := by omega
    rcases this with rfl | rfl | rfl | rfl | rfl | rfl | rfl | rfl <;> rfl) (Nat.le_of_ble_eq_true rfl) (Nat.le_of_ble_eq_true rfl) (N_builtSamples_d.d 16 rfl) ?_
  rw [x_app, x_len]
  refine AW.run X N_builtSamples_d 17 7 rfl ?_
  rw [hyN]
  refine AW.callS (As := [.ref 133, .int (nI (tp_y f i m).toNat)]) X (JArrays_copyOf2_m 133 8192 (tp_y f i m).toNat (S.2.1 0) rfl (by omega) (by decide) (by rw [x_len]; show 132 ≤ _; omega) hfit) cb_N_199 JArrays_copyOf2_st rfl ⟨Nat.le_of_ble_eq_true rfl, Nat.le_of_ble_eq_true rfl⟩ (Nat.le_of_ble_eq_true rfl) ⟨Nat.le_of_ble_eq_true rfl, Nat.le_of_ble_eq_true rfl⟩ (N_builtSamples_d.d 24 rfl) (fun v h' q => ?_)
  obtain ⟨rfl, Bt, e9, gB⟩ := q
  rw [e9, x_app, x_len, List.append_assoc]
  clear e9
  simp only [List.length_append, List.length_singleton]
  refine AW.callI (As := [.int (nI i), .int (nI m), .ref (153 + b), .ref (153 + (tl.length + 1))]) X (S_init_m S _ tl.length b (tl.length + 1) i m wd L T ln_s (ap_g hT) (by omega) (by omega) (by omega) ((hf _ (by omega)).trans hw)) cb_N_202 rfl S_init_im rfl ⟨Nat.le_of_ble_eq_true rfl, Nat.le_of_ble_eq_true rfl⟩ (Nat.le_of_ble_eq_true rfl) ⟨Nat.le_of_ble_eq_true rfl, Nat.le_of_ble_eq_true rfl⟩ (N_builtSamples_d.d 25 rfl) (fun v h' q => ?_)
  obtain ⟨rfl, e9⟩ := q
  rw [e9, List.set_append_right _ _ (Nat.le_refl _), Nat.sub_self, List.append_assoc, List.length_append]
  clear e9
  exact AW.aret X (some (153 + tl.length)) (N_builtSamples_d.d 26 rfl) (Nat.le_of_ble_eq_true rfl) (Nat.le_of_ble_eq_true rfl) ⟨rfl, Bt, rfl, gB⟩

