/-! SAMPLES, the class: its rows wholes, rests and corners lie at x, x + 1, x + 2 of the rest -/
def sT (tl : List va_E) (x : Nat) (W R : Nat → Int32) (C : Nat → Int64) : List va_E := ((tl.set x (.inl (0, 3, .inl W))).set (x + 1) (.inl (0, 3, .inl R))).set (x + 2) (.inl (2, 8, .inr (.inl C)))
theorem sT_l (tl : List va_E) (x : Nat) (W R : Nat → Int32) (C : Nat → Int64) : (sT tl x W R C).length = tl.length := by unfold sT; rw [List.length_set, List.length_set, List.length_set]
theorem sT_o {tl : List va_E} {x k : Nat} {W R : Nat → Int32} {C : Nat → Int64} (h : k < x ∨ x + 2 < k) : (sT tl x W R C)[k]? = tl[k]? := by
  unfold sT
  rw [List.getElem?_set_ne (by omega), List.getElem?_set_ne (by omega), List.getElem?_set_ne (by omega)]
theorem sT_w {tl : List va_E} {x : Nat} {W R : Nat → Int32} {C : Nat → Int64} (h : x + 2 < tl.length) : (sT tl x W R C)[x]? = some (.inl (0, 3, .inl W)) := by
  unfold sT
  rw [List.getElem?_set_ne (by omega), List.getElem?_set_ne (by omega), List.getElem?_set_self (by omega)]
theorem sT_r {tl : List va_E} {x : Nat} {W R : Nat → Int32} {C : Nat → Int64} (h : x + 2 < tl.length) : (sT tl x W R C)[x + 1]? = some (.inl (0, 3, .inl R)) := by
  unfold sT
  rw [List.getElem?_set_ne (by omega), List.getElem?_set_self (by rw [List.length_set]; omega)]
theorem sT_c {tl : List va_E} {x : Nat} {W R : Nat → Int32} {C : Nat → Int64} (h : x + 2 < tl.length) : (sT tl x W R C)[x + 2]? = some (.inl (2, 8, .inr (.inl C))) := by
  unfold sT
  rw [List.getElem?_set_self (by rw [List.length_set, List.length_set]; omega)]
theorem sT_sw (tl : List va_E) (x : Nat) (W W' R : Nat → Int32) (C : Nat → Int64) : (sT tl x W R C).set x (.inl (0, 3, .inl W')) = sT tl x W' R C := by
  unfold sT
  rw [List.set_comm _ _ (by omega : x + 2 ≠ x), List.set_comm _ _ (by omega : x + 1 ≠ x), List.set_set]
theorem sT_sr (tl : List va_E) (x : Nat) (W R R' : Nat → Int32) (C : Nat → Int64) : (sT tl x W R C).set (x + 1) (.inl (0, 3, .inl R')) = sT tl x W R' C := by
  unfold sT
  rw [List.set_comm _ _ (by omega : x + 2 ≠ x + 1), List.set_set]
theorem sT_sc (tl : List va_E) (x : Nat) (W R : Nat → Int32) (C C' : Nat → Int64) : (sT tl x W R C).set (x + 2) (.inl (2, 8, .inr (.inl C'))) = sT tl x W R C' := by
  unfold sT
  rw [List.set_set]
theorem sT_id {tl : List va_E} {x : Nat} {W R : Nat → Int32} {C : Nat → Int64} (h1 : tl[x]? = some (.inl (0, 3, .inl W))) (h2 : tl[x + 1]? = some (.inl (0, 3, .inl R))) (h3 : tl[x + 2]? = some (.inl (2, 8, .inr (.inl C)))) : sT tl x W R C = tl := by
  have hl : x + 2 < tl.length := (List.getElem?_eq_some_iff.mp h3).1
  apply List.ext_getElem?
  intro k
  by_cases z : k < x ∨ x + 2 < k
  · exact sT_o z
  · have : k = x ∨ k = x + 1 ∨ k = x + 2 := by omega
    rcases this with e | e | e
    · rw [e, sT_w hl, h1]
    · rw [e, sT_r hl, h2]
    · rw [e, sT_c hl, h3]
/-- the object of a table of samples -/
def sOb (ab x b n m wd : Nat) : va_E := .inr (5, [.ref ab, .int (nI wd), .ref (153 + x), .ref (153 + (x + 1)), .ref (153 + (x + 2)), .int (nI n), .int (nI m), .ref b])
theorem zco_m {q wh : Nat → Int} {c i : Nat} : (if q (5 * i + 2) - 1 < wh i + (c / 2 ^ i % 2 : Nat) then q (5 * i + 2) - 1 else wh i + (c / 2 ^ i % 2 : Nat)) = zco q wh c i := by
  unfold zco
  split <;> split <;> omega
set_option maxHeartbeats 4000000 in
set_option maxRecDepth 100000 in
theorem S_bitAt_m {l : Launch} {G : ax_G} {h : List va_E} (ao ab x b n m wd N : Nat) (Bt : Nat → Int32) (hO : h[ao]? = some (sOb ab x b n m wd)) (hB : h[ab]? = some (.inl (1, N, .inl Bt))) (hN : N ≤ 8192) (hwd : wd ≤ 16) (p : Nat) (hp : p < 8 * N) :
    AM l VV G S_bitAt_y S_bitAt_c 2 (some .int) 0 0 0 [.ref ao, .int (nI p)] (h) (fun v h' => v = some (.int (iZ (zbt Bt p))) ∧ h' = h) := by
  refine AM.of (pl := pl_S) (by decide) v_good fl_S_ok kl_S_ok nofun (Nat.le_of_ble_eq_true rfl) ?_
  intro p0v e0v s0v m0v args below meth c0v X
  refine AW.run X S_bitAt_d 0 1 rfl ?_
  refine AW.if_lt X (S_bitAt_d.d 1 rfl) (fun q1 => absurd q1 (nI_pos (by omega))) (fun q1 => ?_)
  refine AW.run X S_bitAt_d 2 2 rfl ?_
  refine AW.idiv X (S_bitAt_d.d 4 rfl) (by decide) ?_
  rw [(show (Int8.ofInt 8).toInt32 = nI 8 from rfl), pk_div (a := p) (by omega) (by decide) (by decide)]
  refine AW.run X S_bitAt_d 5 1 rfl ?_
  refine AW.get X hO rfl rfl (S_bitAt_d.d 6 rfl) ?_
  refine AW.alen X hB rfl rfl (S_bitAt_d.d 7 rfl) ?_
  refine AW.icmp_lt X (S_bitAt_d.d 8 rfl) (fun q8 => ?_) (fun q8 => absurd (nI_lt (show p / 8 < N by omega) (by omega)) q8)
  refine AW.run X S_bitAt_d 11 1 rfl ?_
  refine AW.get X hO rfl rfl (S_bitAt_d.d 12 rfl) ?_
  refine AW.run X S_bitAt_d 13 2 rfl ?_
  refine AW.idiv X (S_bitAt_d.d 15 rfl) (by decide) ?_
  rw [(show (Int8.ofInt 8).toInt32 = nI 8 from rfl), pk_div (a := p) (by omega) (by decide) (by decide)]
  refine AW.bald (j := p / 8) X hB rfl rfl (by omega) (by omega) (S_bitAt_d.d 16 rfl) ?_
  refine AW.run X S_bitAt_d 17 3 rfl ?_
  refine AW.irem X (S_bitAt_d.d 20 rfl) (by decide) ?_
  rw [(show (Int8.ofInt 8).toInt32 = nI 8 from rfl), pk_rem (a := p) (by omega) (by decide) (by decide)]
  refine AW.run X S_bitAt_d 21 1 rfl ?_
  rw [show (Int8.ofInt 7).toInt32 - nI (p % 8) = nI (7 - p % 8) from pk_sub (a := 7) (by omega)]
  refine AW.run X S_bitAt_d 22 3 rfl ?_
  exact AW.iret X (S_bitAt_d.d 25 rfl) (Nat.le_of_ble_eq_true rfl) (Nat.le_of_ble_eq_true rfl) ⟨congrArg (fun z => some (Value.int z)) (zbt_i Bt p), rfl⟩

set_option maxHeartbeats 4000000 in
set_option maxRecDepth 100000 in
theorem S_sample_m {l : Launch} {G : ax_G} {h : List va_E} (ao ab x b n m wd N : Nat) (Bt : Nat → Int32) (hO : h[ao]? = some (sOb ab x b n m wd)) (hB : h[ab]? = some (.inl (1, N, .inl Bt))) (hN : N ≤ 8192) (hwd : wd ≤ 16) (a : Nat) (ha : (a + 1) * wd ≤ 8 * N) :
    AM l VV G S_sample_y S_sample_c 6 (some .long) 1 0 0 [.ref ao, .int (nI a)] (h) (fun v h' => v = some (.long (lZ (zsm (zbt Bt) (a * wd) wd))) ∧ h' = h) := by
  refine AM.of (pl := pl_S) (by decide) v_good fl_S_ok kl_S_ok nofun (Nat.le_of_ble_eq_true rfl) ?_
  intro p0v e0v s0v m0v args below meth c0v X
  have ha2 : a * wd + wd ≤ 8 * N := by rw [← Nat.succ_mul]; exact ha
  refine AW.run X S_sample_d 0 4 rfl ?_
  refine AW.get X hO rfl rfl (S_sample_d.d 4 rfl) ?_
  refine AW.run X S_sample_d 5 1 rfl ?_
  rw [pk_mul]
  refine AW.run X S_sample_d 6 3 rfl ?_
  have L13 : ∀ (t2 j : Nat), j ≤ wd → wd - j < t2 → AW p0v l e0v (ax_R 1 0 0) s0v m0v args below meth c0v VV G 6 (h) 0 0 (MQ below (ax_Q VV G (fun v h' => v = some (.long (lZ (zsm (zbt Bt) (a * wd) wd))) ∧ h' = h)) args s0v 0 0 (fun q => G.bs ≤ q)) 13 [(5, .int (nI j)), (4, .int (nI (a * wd))), (2, .long (lZ (zsm (zbt Bt) (a * wd) j))), (0, .ref ao), (1, .int (nI a))] [] := by
    intro t2
    induction t2 with
    | zero => intro j a1 a2; exact absurd a2 (by omega)
    | succ t2 ih =>
      intro j a1 a2
      refine AW.run X S_sample_d 9 2 rfl ?_
      refine AW.get X hO rfl rfl (S_sample_d.d 11 rfl) ?_
      refine AW.icmp_ge X (S_sample_d.d 12 rfl) (fun q12 => ?_) (fun q12 => ?_)
      · refine AW.run X S_sample_d 26 1 rfl ?_
        exact AW.lret X (S_sample_d.d 27 rfl) (Nat.le_of_ble_eq_true rfl) (Nat.le_of_ble_eq_true rfl) ⟨by rw [show j = wd by have := cge q12; omega], rfl⟩
      · have hj : j < wd := clt q12
        refine AW.run X S_sample_d 13 6 rfl ?_
        refine AW.run X S_sample_d 19 1 rfl ?_
        rw [nI_add]
        refine AW.callV (As := [.int (nI (a * wd + j))]) X (S_bitAt_m ao ab x b n m wd N Bt hO hB hN hwd (a * wd + j) (by omega)) cb_S_78 hO rfl S_bitAt_im S_bitAt_se rfl ⟨Nat.le_of_ble_eq_true rfl, Nat.le_of_ble_eq_true rfl⟩ (Nat.le_of_ble_eq_true rfl) ⟨Nat.le_of_ble_eq_true rfl, Nat.le_of_ble_eq_true rfl⟩ (S_sample_d.d 20 rfl) (fun v h' q => ?_)
        obtain ⟨rfl, e9⟩ := q
        rw [e9]
        clear e9
        refine AW.run X S_sample_d 21 1 rfl ?_
        refine AW.run X S_sample_d 22 1 rfl ?_
        rw [iZ_l (z := zbt Bt (a * wd + j)) ⟨by have := zbt_b Bt (a * wd + j); omega, by have := zbt_b Bt (a * wd + j); omega⟩, show (2 : Int64) = lZ 2 from rfl, lZ_mul, lZ_add]
        refine AW.run X S_sample_d 23 2 rfl ?_
        refine AW.goto X (S_sample_d.d 25 rfl) ?_
        refine AW.pk [0, 2, 1, 3, 4] rfl ?_
        rw [nI_o1]
        exact ih (j + 1) (by omega) (by omega)
  rw [lZ_c0]
  exact L13 (wd + 1) 0 (by omega) (by omega)

set_option maxHeartbeats 4000000 in
set_option maxRecDepth 100000 in
theorem S_placeOf_m {l : Launch} {G : ax_G} {h : List va_E} (ao ab x b n m wd L : Nat) (q wh : Nat → Int) (T Wh : Nat → Int32) (c : Nat) (hO : h[ao]? = some (sOb ab x b n m wd)) (hT : h[b]? = some (.inl (0, L, .inl T))) (hL : 5 * n ≤ L ∧ L ≤ 96) (hQ : ∀ k, k < L → T k = iZ (q k) ∧ zN (q k)) (hWh : h[153 + x]? = some (.inl (0, 3, .inl Wh))) (hn : 1 ≤ n ∧ n ≤ 3) (hc : c < 8) (hw : ∀ i, i < n → Wh i = iZ (wh i) ∧ 0 ≤ wh i ∧ wh i < 64) :
    AM l VV G S_placeOf_y S_placeOf_c 6 (some .int) 1 0 0 [.ref ao, .int (nI c)] (h) (fun v h' => v = some (.int (iZ (zpd q wh c n n))) ∧ h' = h) := by
  refine AM.of (pl := pl_S) (by decide) v_good fl_S_ok kl_S_ok nofun (Nat.le_of_ble_eq_true rfl) ?_
  intro p0v e0v s0v m0v args below meth c0v X
  refine AW.run X S_placeOf_d 0 3 rfl ?_
  refine AW.get X hO rfl rfl (S_placeOf_d.d 3 rfl) ?_
  refine AW.run X S_placeOf_d 4 1 rfl ?_
  refine AW.run X S_placeOf_d 5 1 rfl ?_
  rw [show nI n - Int32.ofInt 1 = iZ ((n : Int) - 1 - (0 : Nat)) from by rw [iZ_n, show Int32.ofInt 1 = iZ 1 from rfl, iZ_sub]; congr 1; omega]
  refine AW.run X S_placeOf_d 6 1 rfl ?_
  have L9 : ∀ (t2 k : Nat), k ≤ n → n - k < t2 → AW p0v l e0v (ax_R 1 0 0) s0v m0v args below meth c0v VV G 6 (h) 0 0 (MQ below (ax_Q VV G (fun v h' => v = some (.int (iZ (zpd q wh c n n))) ∧ h' = h)) args s0v 0 0 (fun q => G.bs ≤ q)) 9 [(3, .int (iZ ((n : Int) - 1 - k))), (2, .int (iZ (zpd q wh c n k))), (0, .ref ao), (1, .int (nI c))] [] := by
    intro t2
    induction t2 with
    | zero => intro k a1 a2; exact absurd a2 (by omega)
    | succ t2 ih =>
      intro k a1 a2
      refine AW.run X S_placeOf_d 7 1 rfl ?_
      refine AW.if_lt X (S_placeOf_d.d 8 rfl) (fun q8 => ?_) (fun q8 => ?_)
      · refine AW.run X S_placeOf_d 41 1 rfl ?_
        exact AW.iret X (S_placeOf_d.d 42 rfl) (Nat.le_of_ble_eq_true rfl) (Nat.le_of_ble_eq_true rfl) ⟨by rw [show k = n by have := (iZ_lt (a := (n : Int) - 1 - k) (b := 0) ⟨by omega, by omega⟩ ⟨by decide, by decide⟩).mp q8; omega], rfl⟩
      · have hk : k < n := by
          have := mt (iZ_lt (a := (n : Int) - 1 - k) (b := 0) ⟨by omega, by omega⟩ ⟨by decide, by decide⟩).mpr q8
          omega
        have hki : iZ ((n : Int) - 1 - k) = nI (n - 1 - k) := by rw [iZ_n]; congr 1; omega
        refine AW.run X S_placeOf_d 9 1 rfl ?_
        refine AW.get X hO rfl rfl (S_placeOf_d.d 10 rfl) ?_
        refine AW.run X S_placeOf_d 11 5 rfl ?_
        refine AW.iald (j := 5 * (n - 1 - k) + 2) X hT rfl (by rw [hki, show Int32.ofInt 5 * nI (n - 1 - k) = nI (5 * (n - 1 - k)) from pk_mul 5 _]; exact nI_add _ 2) (by omega) (by omega) (S_placeOf_d.d 16 rfl) ?_
        rw [(hQ (5 * (n - 1 - k) + 2) (by omega)).1]
        refine AW.run X S_placeOf_d 17 2 rfl ?_
        refine AW.get X hO rfl rfl (S_placeOf_d.d 19 rfl) ?_
        refine AW.run X S_placeOf_d 20 1 rfl ?_
        refine AW.iald (j := n - 1 - k) X hWh rfl hki (by omega) (by decide) (S_placeOf_d.d 21 rfl) ?_
        rw [(hw (n - 1 - k) (by omega)).1]
        refine AW.run X S_placeOf_d 22 4 rfl ?_
        refine AW.run X S_placeOf_d 26 1 rfl ?_
        rw [hki, crn c hc (n - 1 - k) (by omega)]
        refine AW.run X S_placeOf_d 27 1 rfl ?_
        rw [iZ_n (c / 2 ^ (n - 1 - k) % 2), iZ_add]
        refine AW.run X S_placeOf_d 28 7 rfl ?_
        refine AW.run X S_placeOf_d 35 1 rfl ?_
        rw [show Int32.ofInt 1 = iZ 1 from rfl, iZ_sub]
        refine AW.callS (As := [.int (iZ (wh (n - 1 - k) + ((c / 2 ^ (n - 1 - k) % 2 : Nat) : Int))), .int (iZ (q (5 * (n - 1 - k) + 2) - 1))]) X (JMath_min1_m _ _) cb_S_71 JMath_min1_st rfl ⟨Nat.le_of_ble_eq_true rfl, Nat.le_of_ble_eq_true rfl⟩ (Nat.le_of_ble_eq_true rfl) ⟨Nat.le_of_ble_eq_true rfl, Nat.le_of_ble_eq_true rfl⟩ (S_placeOf_d.d 36 rfl) (fun v h' q => ?_)
        obtain ⟨rfl, e9⟩ := q
        rw [e9]
        clear e9
        rw [show (if iZ (q (5 * (n - 1 - k) + 2) - 1) < iZ (wh (n - 1 - k) + ((c / 2 ^ (n - 1 - k) % 2 : Nat) : Int)) then iZ (q (5 * (n - 1 - k) + 2) - 1) else iZ (wh (n - 1 - k) + ((c / 2 ^ (n - 1 - k) % 2 : Nat) : Int))) = iZ (zco q wh c (n - 1 - k)) from by
          have h1 := (hQ (5 * (n - 1 - k) + 2) (by omega)).2
          have h2 := (hw (n - 1 - k) (by omega)).2
          have h3 := h1.1
          have h4 := h1.2
          rw [← zco_m]
          by_cases z : q (5 * (n - 1 - k) + 2) - 1 < wh (n - 1 - k) + ((c / 2 ^ (n - 1 - k) % 2 : Nat) : Int)
          · rw [if_pos z, if_pos ((iZ_lt ⟨by omega, by omega⟩ ⟨by omega, by omega⟩).mpr z)]
          · rw [if_neg z, if_neg (mt (iZ_lt ⟨by omega, by omega⟩ ⟨by omega, by omega⟩).mp z)]]
        refine AW.run X S_placeOf_d 37 1 rfl ?_
        rw [iZ_mul, iZ_add]
        refine AW.run X S_placeOf_d 38 2 rfl ?_
        refine AW.goto X (S_placeOf_d.d 40 rfl) ?_
        refine AW.pk [0, 1, 4, 5] rfl ?_
        rw [← hki, show iZ ((n : Int) - 1 - k) + Int32.ofInt (-1) = iZ ((n : Int) - 1 - (k + 1 : Nat)) from by rw [show Int32.ofInt (-1) = iZ (-1) from rfl, iZ_add]; congr 1; omega]
        exact ih (k + 1) (by omega) (by omega)
  exact L9 (n + 1) 0 (by omega) (by omega)

