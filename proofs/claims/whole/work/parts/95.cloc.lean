theorem zTl_n {q wh : Nat → Int} {n m wd o c B : Nat} (hq : ∀ i, i < n → 1 ≤ q (5 * i + 2) ∧ q (5 * i + 2) ≤ 64) (hB : zsz q n * m * wd ≤ B) (hw : ∀ i, i < n → 0 ≤ wh i) (ho : o < m) : 0 ≤ (zps q wh c n).1 ∧ ((zps q wh c n).1.toNat * m + o + 1) * wd ≤ B := by
  have b := zps_b (q := q) (wh := wh) (c := c) (n := n) (fun i l => ⟨hq i l, hw i l⟩) n (Nat.le_refl _)
  refine ⟨b.1, ?_⟩
  generalize (zps q wh c n).1 = p at b ⊢
  obtain ⟨p', rfl⟩ : ∃ p' : Nat, p = p' := ⟨p.toNat, by omega⟩
  have e1 : (p' + 1) * m ≤ (zsz q n).toNat * m := Nat.mul_le_mul_right m (by omega)
  have e2 : p' * m + o + 1 ≤ (p' + 1) * m := by rw [Nat.add_mul, Nat.one_mul]; omega
  have e3 : (p' * m + o + 1) * wd ≤ (zsz q n).toNat * m * wd := Nat.mul_le_mul_right wd (Nat.le_trans e2 e1)
  have e4 : (((zsz q n).toNat * m * wd : Nat) : Int) ≤ B := by
    rw [Int.natCast_mul, Int.natCast_mul, Int.toNat_of_nonneg (by omega)]; exact hB
  show (p' * m + o + 1) * wd ≤ B
  omega
theorem ip_s {p : Int} {m o : Nat} (hp : 0 ≤ p) : iZ p * nI m + nI o = nI (p.toNat * m + o) := by
  rw [iZ_n, iZ_n, iZ_n, iZ_mul, iZ_add]
  congr 1
  rw [Int.natCast_add, Int.natCast_mul, Int.toNat_of_nonneg hp]
theorem i_d16 {a : Int} (h : 0 ≤ a ∧ a < 4194304) : iZ a / (65536 : Int32) = iZ (a / 65536) := by
  rw [iZ_div ⟨by omega, by omega⟩, Int.tdiv_eq_ediv_of_nonneg h.1]
theorem i_r16 {a : Int} (h : 0 ≤ a ∧ a < 4194304) : iZ a - iZ a / (65536 : Int32) * (65536 : Int32) = iZ (a % 65536) := by
  rw [i_d16 h, show (65536 : Int32) = iZ 65536 from rfl, iZ_mul, iZ_sub]
  congr 1
  omega
set_option maxHeartbeats 4000000 in
set_option maxRecDepth 100000 in
theorem S_locate_m {l : Launch} {G : ax_G} (S : x_S) (tl : List va_E) (a b cb x n m wd N : Nat) (q : Nat → Int) (Bt : Nat → Int32) (hO : tl[a]? = some (sOb (153 + cb) x (153 + b) n m wd)) (hD : DQ tl b q (5 * n + 1 + 4 * m)) (hB : tl[cb]? = some (.inl (1, N, .inl Bt))) (hA : a < x ∨ x + 2 < a) (hBx : b < x ∨ x + 2 < b) (hCx : cb < x ∨ x + 2 < cb) (hx : x + 2 < tl.length) (hn : 1 ≤ n ∧ n ≤ 3) (hm : 1 ≤ m ∧ m ≤ 4) (hwd : wd ≤ 16) (hqs : ∀ i, i < n → 1 ≤ q (5 * i + 2) ∧ q (5 * i + 2) ≤ 64) (hN : N ≤ 8192) (hNb : zsz q n * m * wd ≤ ((8 * N : Nat) : Int)) (W Rs : Nat → Int32) (C : Nat → Int64) (i : Nat) (xx : Int) (hi : i < n) (hle : q (5 * i) ≤ q (5 * i + 1)) (hxx : zN xx) :
    AM l VV G S_locate_y S_locate_c 8 none 3 0 0 [.ref (153 + a), .int (nI i), .int (iZ xx)] (x_hC S (sT tl x W Rs C)) (fun v h' => v = none ∧ h' = x_hC S (sT tl x (upd W i (iZ (zst q i xx / 65536))) (upd Rs i (iZ (zst q i xx % 65536))) C)) := by
  refine AM.of (pl := pl_S) (by decide) v_good fl_S_ok kl_S_ok nofun (Nat.le_of_ble_eq_true rfl) ?_
  intro p0v e0v s0v m0v args below meth c0v X
  obtain ⟨hL, T, hT, hQ⟩ := hD
  have hzs := zst_L (inp := fun _ => xx) (hqs i hi)
  refine AW.run X S_locate_d 0 2 rfl ?_
  refine AW.run X S_locate_d 2 1 rfl ?_
  rw [show Int32.ofInt 5 * nI i = nI (5 * i) from pk_mul 5 i]
  refine AW.run X S_locate_d 3 4 rfl ?_
  refine AW.callU (rc := ("NumberFunctions$Samples", Cl_S, 8)) (As := [.int (iZ xx), .int (nI (5 * i))]) X (F_withinPair_m (153 + a) (153 + b) 5 7 (5 * i) (5 * n + 1 + 4 * m) _ T xx (q (5 * i)) (q (5 * i + 1)) ((x_tl _ _ a).trans ((sT_o hA).trans hO)) rfl rfl ((x_tl _ _ b).trans ((sT_o hBx).trans hT)) hL (by omega) (hQ (5 * i) (by omega)).1 (hQ (5 * i + 1) (by omega)).1 hxx (hQ (5 * i) (by omega)).2 (hQ (5 * i + 1) (by omega)).2 hle) cu_S_55_S ((x_tl _ _ a).trans ((sT_o hA).trans hO)) rfl rfl ⟨Nat.le_of_ble_eq_true rfl, Nat.le_of_ble_eq_true rfl⟩ (Nat.le_of_ble_eq_true rfl) ⟨Nat.le_of_ble_eq_true rfl, Nat.le_of_ble_eq_true rfl⟩ (S_locate_d.d 7 rfl) (fun v h' q => ?_)
  obtain ⟨rfl, rfl⟩ := q
  refine AW.run X S_locate_d 8 4 rfl ?_
  refine AW.get X ((x_tl _ _ a).trans ((sT_o hA).trans hO)) rfl rfl (S_locate_d.d 12 rfl) ?_
  refine AW.run X S_locate_d 13 1 rfl ?_
  refine AW.iald (j := 5 * i) X ((x_tl _ _ b).trans ((sT_o hBx).trans hT)) rfl rfl (by omega) (by omega) (S_locate_d.d 14 rfl) ?_
  rw [(hQ (5 * i) (by omega)).1]
  refine AW.run X S_locate_d 15 2 rfl ?_
  refine AW.get X ((x_tl _ _ a).trans ((sT_o hA).trans hO)) rfl rfl (S_locate_d.d 17 rfl) ?_
  refine AW.run X S_locate_d 18 3 rfl ?_
  refine AW.iald (j := 5 * i + 1) X ((x_tl _ _ b).trans ((sT_o hBx).trans hT)) rfl (nI_o1 _) (by omega) (by omega) (S_locate_d.d 21 rfl) ?_
  rw [(hQ (5 * i + 1) (by omega)).1]
  refine AW.run X S_locate_d 22 2 rfl ?_
  refine AW.get X ((x_tl _ _ a).trans ((sT_o hA).trans hO)) rfl rfl (S_locate_d.d 24 rfl) ?_
  refine AW.run X S_locate_d 25 3 rfl ?_
  refine AW.iald (j := 5 * i + 3) X ((x_tl _ _ b).trans ((sT_o hBx).trans hT)) rfl (show nI (5 * i) + Int32.ofInt 3 = nI (5 * i + 3) from nI_add (5 * i) 3) (by omega) (by omega) (S_locate_d.d 28 rfl) ?_
  rw [(hQ (5 * i + 3) (by omega)).1]
  refine AW.run X S_locate_d 29 2 rfl ?_
  refine AW.get X ((x_tl _ _ a).trans ((sT_o hA).trans hO)) rfl rfl (S_locate_d.d 31 rfl) ?_
  refine AW.run X S_locate_d 32 3 rfl ?_
  refine AW.iald (j := 5 * i + 4) X ((x_tl _ _ b).trans ((sT_o hBx).trans hT)) rfl (show nI (5 * i) + Int32.ofInt 4 = nI (5 * i + 4) from nI_add (5 * i) 4) (by omega) (by omega) (S_locate_d.d 35 rfl) ?_
  rw [(hQ (5 * i + 4) (by omega)).1]
  refine AW.run X S_locate_d 36 1 rfl ?_
  rw [iZ_l (zN_I (zcut_N hxx (hQ (5 * i) (by omega)).2 (hQ (5 * i + 1) (by omega)).2)), iZ_l (zN_I (hQ (5 * i) (by omega)).2), iZ_l (zN_I (hQ (5 * i + 1) (by omega)).2), iZ_l (zN_I (hQ (5 * i + 3) (by omega)).2), iZ_l (zN_I (hQ (5 * i + 4) (by omega)).2)]
  refine AW.callS (As := [.long (lZ (zcut xx (q (5 * i)) (q (5 * i + 1)))), .long (lZ (q (5 * i))), .long (lZ (q (5 * i + 1))), .long (lZ (q (5 * i + 3))), .long (lZ (q (5 * i + 4)))]) X (B_laid_m (zcut xx (q (5 * i)) (q (5 * i + 1))) (q (5 * i)) (q (5 * i + 1)) (q (5 * i + 3)) (q (5 * i + 4)) (zcut_b hle) (zN_L (hQ (5 * i) (by omega)).2) (zN_L (hQ (5 * i + 1) (by omega)).2) (by have h8 := (hQ (5 * i) (by omega)).2; have h9 := (hQ (5 * i + 1) (by omega)).2; have := h8.1; have := h9.2; omega) (hQ (5 * i + 3) (by omega)).2 (hQ (5 * i + 4) (by omega)).2) cb_S_49 B_laid_st rfl ⟨Nat.le_of_ble_eq_true rfl, Nat.le_of_ble_eq_true rfl⟩ (Nat.le_of_ble_eq_true rfl) ⟨Nat.le_of_ble_eq_true rfl, Nat.le_of_ble_eq_true rfl⟩ (S_locate_d.d 37 rfl) (fun v h' q => ?_)
  obtain ⟨rfl, rfl⟩ := q
  refine AW.run X S_locate_d 38 2 rfl ?_
  refine AW.get X ((x_tl _ _ a).trans ((sT_o hA).trans hO)) rfl rfl (S_locate_d.d 40 rfl) ?_
  refine AW.run X S_locate_d 41 3 rfl ?_
  refine AW.iald (j := 5 * i + 2) X ((x_tl _ _ b).trans ((sT_o hBx).trans hT)) rfl (show nI (5 * i) + Int32.ofInt 2 = nI (5 * i + 2) from nI_add (5 * i) 2) (by omega) (by omega) (S_locate_d.d 44 rfl) ?_
  rw [(hQ (5 * i + 2) (by omega)).1]
  refine AW.run X S_locate_d 45 1 rfl ?_
  refine AW.run X S_locate_d 46 1 rfl ?_
  rw [show Int32.ofInt 1 = iZ 1 from rfl, iZ_sub]
  refine AW.run X S_locate_d 47 7 rfl ?_
  refine AW.run X S_locate_d 54 1 rfl ?_
  rw [lZ_c0, iZ_l (z := q (5 * i + 2) - 1) ⟨by have := hqs i hi; omega, by have := hqs i hi; omega⟩, show (65536 : Int64) = lZ 65536 from rfl, lZ_mul, iZ_l (z := zlaid (zcut xx (q (5 * i)) (q (5 * i + 1))) (q (5 * i)) (q (5 * i + 1)) (q (5 * i + 3)) (q (5 * i + 4))) (zN_I (zlaid_N (hQ (5 * i + 3) (by omega)).2))]
  refine AW.callS (As := [.long (lZ (zlaid (zcut xx (q (5 * i)) (q (5 * i + 1))) (q (5 * i)) (q (5 * i + 1)) (q (5 * i + 3)) (q (5 * i + 4)))), .long (lZ 0), .long (lZ ((q (5 * i + 2) - 1) * 65536))]) X (B_within_m (zlaid (zcut xx (q (5 * i)) (q (5 * i + 1))) (q (5 * i)) (q (5 * i + 1)) (q (5 * i + 3)) (q (5 * i + 4))) 0 ((q (5 * i + 2) - 1) * 65536) (zN_L (zlaid_N (hQ (5 * i + 3) (by omega)).2)) ⟨by decide, by decide⟩ ⟨by have := hqs i hi; omega, by have := hqs i hi; omega⟩ (by have := hqs i hi; omega)) cb_S_59 B_within_st rfl ⟨Nat.le_of_ble_eq_true rfl, Nat.le_of_ble_eq_true rfl⟩ (Nat.le_of_ble_eq_true rfl) ⟨Nat.le_of_ble_eq_true rfl, Nat.le_of_ble_eq_true rfl⟩ (S_locate_d.d 55 rfl) (fun v h' q => ?_)
  obtain ⟨rfl, rfl⟩ := q
  rw [show zcut (zlaid (zcut xx (q (5 * i)) (q (5 * i + 1))) (q (5 * i)) (q (5 * i + 1)) (q (5 * i + 3)) (q (5 * i + 4))) 0 ((q (5 * i + 2) - 1) * 65536) = zst q i xx from rfl]
  refine AW.run X S_locate_d 56 1 rfl ?_
  rw [lZ_i]
  refine AW.run X S_locate_d 57 2 rfl ?_
  refine AW.get X ((x_tl _ _ a).trans ((sT_o hA).trans hO)) rfl rfl (S_locate_d.d 59 rfl) ?_
  refine AW.run X S_locate_d 60 3 rfl ?_
  refine AW.idiv X (S_locate_d.d 63 rfl) (by decide) ?_
  rw [i_d16 (a := zst q i xx) hzs]
  refine AW.iast (j := i) X ((x_tl _ _ (x)).trans (sT_w hx)) rfl (by show 132 ≤ 153 + _; omega) rfl (by omega) (by decide) (S_locate_d.d 64 rfl) ?_
  rw [x_set, sT_sw]
  refine AW.run X S_locate_d 65 1 rfl ?_
  refine AW.get X ((x_tl _ _ a).trans ((sT_o hA).trans hO)) rfl rfl (S_locate_d.d 66 rfl) ?_
  refine AW.run X S_locate_d 67 3 rfl ?_
  refine AW.irem X (S_locate_d.d 70 rfl) (by decide) ?_
  rw [i_r16 (a := zst q i xx) hzs]
  refine AW.iast (j := i) X ((x_tl _ _ (x + 1)).trans (sT_r hx)) rfl (by show 132 ≤ 153 + _; omega) rfl (by omega) (by decide) (S_locate_d.d 71 rfl) ?_
  rw [x_set, sT_sr]
  exact AW.vret X (S_locate_d.d 72 rfl) (Nat.le_of_ble_eq_true rfl) (Nat.le_of_ble_eq_true rfl) ⟨rfl, rfl⟩

