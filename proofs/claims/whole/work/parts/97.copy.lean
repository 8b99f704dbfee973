/-! NEW ROWS -/
theorem ap_l (h : List va_E) (c : va_E) : (h ++ [c])[h.length]? = some c := List.getElem?_concat_length
theorem ap_o {h : List va_E} {k : Nat} {c x : va_E} (e : h[k]? = some x) : (h ++ [c])[k]? = some x := by
  have := (List.getElem?_eq_some_iff.mp e).1
  rw [List.getElem?_append_left this]; exact e
theorem ap_s (h : List va_E) (c d : va_E) : (h ++ [c]).set h.length d = h ++ [d] := by
  rw [List.set_append_right _ _ (Nat.le_refl _), Nat.sub_self]
  rfl
theorem ac_int : Cond.arrayClass .int ∈ VV.ts := mt1 (List.mem_of_getElem? (i := 53) rfl)
theorem ac_byte : Cond.arrayClass .byte ∈ VV.ts := mt1 (List.mem_of_getElem? (i := 52) rfl)
theorem ac_long : Cond.arrayClass .long ∈ VV.ts := mt2 (List.mem_of_getElem? (i := 212) rfl)

set_option maxHeartbeats 4000000 in
set_option maxRecDepth 100000 in
theorem JArrays_copyOf1_m {l : Launch} {G : ax_G} {h : List va_E} (a0 n0 N : Nat) (f : Nat → Int32) (ha : h[a0]? = some (.inl (0, n0, .inl f))) (hN : N ≤ n0) (h4 : n0 ≤ 400) (hC : ax_nC ≤ h.length) :
    AM l VV G JArrays_copyOf1_y JArrays_copyOf1_c 3 (some (.array .int)) 1 1 400 [.ref a0, .int (nI N)] (h) (fun v h' => v = some (.ref h.length) ∧ ∃ g, h' = h ++ [.inl (0, N, .inl g)] ∧ ∀ j, j < N → g j = f j) := by
  refine AM.ofF (pl := pl_JArrays) JArrays_copyOf1_pf v_good fl_JArrays_ok kl_JArrays_ok nofun (Nat.le_of_ble_eq_true rfl) ?_
  intro p0v e0v s0v m0v args below meth c0v X
  refine AW.run X JArrays_copyOf1_d 0 2 rfl ?_
  refine AW.alen X ha rfl rfl (JArrays_copyOf1_d.d 2 rfl) ?_
  refine AW.icmp_ne X (JArrays_copyOf1_d.d 3 rfl) (fun q3 => ?_) (fun q3 => ?_)
  · refine AW.run X JArrays_copyOf1_d 8 1 rfl ?_
    have hlt : N < n0 := by
      have : N ≠ n0 := fun z => q3 (by rw [z])
      omega
    refine AW.newa (t := 0) (N := N) (a0 := .inl (fun _ => 0)) (atype := .int) X ac_int rfl (fun cA => rfl) rfl (by omega) (by show 0 + 1 ≤ 1; omega) (by show 0 + N ≤ 400; omega) (fun cA U hU => va_nm_int hU) (JArrays_copyOf1_d.d 9 rfl) ?_
    refine AW.run X JArrays_copyOf1_d 10 6 rfl ?_
    refine AW.alen X (ap_o ha) rfl rfl (JArrays_copyOf1_d.d 16 rfl) ?_
    refine AW.run X JArrays_copyOf1_d 17 1 rfl ?_
    refine AW.callS (As := [.int (nI n0), .int (nI N)]) X (JMath_min1_m _ _) cb_JArrays_304 JMath_min1_st rfl ⟨Nat.le_of_ble_eq_true rfl, Nat.le_of_ble_eq_true rfl⟩ (Nat.le_of_ble_eq_true rfl) ⟨by show 0 + 1 + 0 ≤ 1; omega, by show 0 + N + 0 ≤ 400; omega⟩ (JArrays_copyOf1_d.d 18 rfl) (fun v h' q => ?_)
    obtain ⟨rfl, rfl⟩ := q
    rw [if_pos (nI_lt hlt (by omega))]
    refine AW.copyi (sp := 0) (dp := 0) (n := N) X (ap_o ha) (ap_l _ _) rfl rfl rfl hC ac_JArrays_150 rfl rfl rfl (by omega) (by omega) (by omega) (by omega) (fun i _ => rfl) (Nat.le_of_ble_eq_true rfl) (Nat.le_of_ble_eq_true rfl) (Nat.le_of_ble_eq_true rfl) (JArrays_copyOf1_d.d 19 rfl) ?_
    rw [ap_s]
    refine AW.run X JArrays_copyOf1_d 20 1 rfl ?_
    exact AW.aretA X (some h.length) (JArrays_copyOf1_d.d 21 rfl) (Nat.le_of_ble_eq_true rfl) (by omega) ⟨rfl, _, rfl, fun j hj => by unfold va_cpy; rw [if_pos ⟨by omega, by omega⟩]; congr 1; omega⟩
  · refine AW.run X JArrays_copyOf1_d 4 1 rfl ?_
    have hE : N = n0 := (nI_eq (by omega) (by omega)).mp q3
    refine AW.clone X cn_JArrays_316 ha rfl (fun cA U hU => va_nm_int hU) (fun i _ => rfl) (Nat.le_of_ble_eq_true rfl) (Nat.le_of_ble_eq_true rfl) (Nat.le_of_ble_eq_true rfl) (by show 0 + 1 ≤ 1; omega) (by show 0 + n0 ≤ 400; omega) (JArrays_copyOf1_d.d 5 rfl) ?_
    refine AW.castA X ck_JArrays_317 (ap_l _ _) rfl (fun cA U hU => va_nm_int hU) (JArrays_copyOf1_d.d 6 rfl) ?_
    exact AW.aretA X (some h.length) (JArrays_copyOf1_d.d 7 rfl) (Nat.le_of_ble_eq_true rfl) (by omega) ⟨rfl, f, by rw [hE], fun j _ => rfl⟩

set_option maxHeartbeats 4000000 in
set_option maxRecDepth 100000 in
theorem JArrays_copyOf2_m {l : Launch} {G : ax_G} {h : List va_E} (a0 n0 N : Nat) (f : Nat → Int32) (ha : h[a0]? = some (.inl (1, n0, .inl f))) (hN : N ≤ n0) (h4 : n0 ≤ 8192) (hC : ax_nC ≤ h.length) (hfit : ∀ i, i < n0 → fits .byte (.int (f i)) = true) :
    AM l VV G JArrays_copyOf2_y JArrays_copyOf2_c 3 (some (.array .byte)) 1 1 8192 [.ref a0, .int (nI N)] (h) (fun v h' => v = some (.ref h.length) ∧ ∃ g, h' = h ++ [.inl (1, N, .inl g)] ∧ ∀ j, j < N → g j = f j) := by
  refine AM.ofF (pl := pl_JArrays) JArrays_copyOf2_pf v_good fl_JArrays_ok kl_JArrays_ok nofun (Nat.le_of_ble_eq_true rfl) ?_
  intro p0v e0v s0v m0v args below meth c0v X
  refine AW.run X JArrays_copyOf2_d 0 2 rfl ?_
  refine AW.alen X ha rfl rfl (JArrays_copyOf2_d.d 2 rfl) ?_
  refine AW.icmp_ne X (JArrays_copyOf2_d.d 3 rfl) (fun q3 => ?_) (fun q3 => ?_)
  · refine AW.run X JArrays_copyOf2_d 8 1 rfl ?_
    have hlt : N < n0 := by
      have : N ≠ n0 := fun z => q3 (by rw [z])
      omega
    refine AW.newa (t := 1) (N := N) (a0 := .inl (fun _ => 0)) (atype := .byte) X ac_byte rfl (fun cA => rfl) rfl (by omega) (by show 0 + 1 ≤ 1; omega) (by show 0 + N ≤ 8192; omega) (fun cA U hU => va_nm_byte hU) (JArrays_copyOf2_d.d 9 rfl) ?_
    refine AW.run X JArrays_copyOf2_d 10 6 rfl ?_
    refine AW.alen X (ap_o ha) rfl rfl (JArrays_copyOf2_d.d 16 rfl) ?_
    refine AW.run X JArrays_copyOf2_d 17 1 rfl ?_
    refine AW.callS (As := [.int (nI n0), .int (nI N)]) X (JMath_min1_m _ _) cb_JArrays_304 JMath_min1_st rfl ⟨Nat.le_of_ble_eq_true rfl, Nat.le_of_ble_eq_true rfl⟩ (Nat.le_of_ble_eq_true rfl) ⟨by show 0 + 1 + 0 ≤ 1; omega, by show 0 + N + 0 ≤ 8192; omega⟩ (JArrays_copyOf2_d.d 18 rfl) (fun v h' q => ?_)
    obtain ⟨rfl, rfl⟩ := q
    rw [if_pos (nI_lt hlt (by omega))]
    refine AW.copyi (sp := 0) (dp := 0) (n := N) X (ap_o ha) (ap_l _ _) rfl rfl rfl hC ac_JArrays_150 rfl rfl rfl (by omega) (by omega) (by omega) (by omega) (fun i hi => hfit (0 + i) (by omega)) (Nat.le_of_ble_eq_true rfl) (Nat.le_of_ble_eq_true rfl) (Nat.le_of_ble_eq_true rfl) (JArrays_copyOf2_d.d 19 rfl) ?_
    rw [ap_s]
    refine AW.run X JArrays_copyOf2_d 20 1 rfl ?_
    exact AW.aretA X (some h.length) (JArrays_copyOf2_d.d 21 rfl) (Nat.le_of_ble_eq_true rfl) (by omega) ⟨rfl, _, rfl, fun j hj => by unfold va_cpy; rw [if_pos ⟨by omega, by omega⟩]; congr 1; omega⟩
  · refine AW.run X JArrays_copyOf2_d 4 1 rfl ?_
    have hE : N = n0 := (nI_eq (by omega) (by omega)).mp q3
    refine AW.clone X cn_JArrays_310 ha rfl (fun cA U hU => va_nm_byte hU) hfit (Nat.le_of_ble_eq_true rfl) (Nat.le_of_ble_eq_true rfl) (Nat.le_of_ble_eq_true rfl) (by show 0 + 1 ≤ 1; omega) (by show 0 + n0 ≤ 8192; omega) (JArrays_copyOf2_d.d 5 rfl) ?_
    refine AW.castA X ck_JArrays_311 (ap_l _ _) rfl (fun cA U hU => va_nm_byte hU) (JArrays_copyOf2_d.d 6 rfl) ?_
    exact AW.aretA X (some h.length) (JArrays_copyOf2_d.d 7 rfl) (Nat.le_of_ble_eq_true rfl) (by omega) ⟨rfl, f, by rw [hE], fun j _ => rfl⟩

