theorem rm_c : room_1.cells = 601024 := rfl
theorem rm_s : room_1.slots = 7293034 := rfl
section LAWOP
variable {p : Program} {l : Launch} {e : Env} {s : State} {m : MethodId} {args : Array Value} {below : List Frame} {meth : Method} {c : Code} {G : ax_G} {cells slots : Nat} {Q : State → Prop} {S : x_S} {M : x_M} {T : List va_E} {B : Nat → Nat} {r n nf i L : Nat} {xs : Nat → Int32}
set_option maxHeartbeats 4000000 in
set_option maxRecDepth 100000 in
theorem lw_feed (X : ax_X p m meth c s args VV G L_law_c 7 "NumberFunctionsLaw" pl_L (some .boolean)) (hLS : ax_LS G s) (hX : va_X (G.ph 89) L xs s G.H0) (hL : L ≤ 3072) (hi : i + 6 ≤ L) (hcs : cells + 6 ≤ 601024 ∧ slots + 8700 ≤ 7293034) (hP : Pd l G N_feed_y N_feed_c 6 1 [.ref 132, .int (xs (i + 1)), .int (xs (i + 2)), .int (xs (i + 3)), .int (xs (i + 4)), .int (xs (i + 5))] M_feed_y M_feed_c 8 0 [.ref 153, .int (xs (i + 1)), .int (xs (i + 2)), .int (xs (i + 3)), .int (xs (i + 4)), .int (xs (i + 5))] S M T) (kk : ∀ h', RX' h' → AW p l e room_1 s m args below meth c VV G 7 (h') (cells + 6) (slots + 8700) Q 592 [(4, .int (nI i)), (0, .ref 89), (1, .ref 132), (2, .ref 153), (3, .ref 173)] []) : AW p l e room_1 s m args below meth c VV G 7 (x_hM S M T) cells slots Q 96 [(4, .int (nI i)), (0, .ref 89), (1, .ref 132), (2, .ref 153), (3, .ref 173)] [] := by
  obtain ⟨val, MI, hN, hM⟩ := hP
  refine AW.run X L_law_d 25 5 rfl ?_
  refine AW.scr (j := i + 1) X hX hL (nI_o1 i) (by omega) (L_law_d.d 30 rfl) ?_
  refine AW.run X L_law_d 31 4 rfl ?_
  refine AW.scr (j := i + 2) X hX hL (nI_add i 2) (by omega) (L_law_d.d 35 rfl) ?_
  refine AW.run X L_law_d 36 4 rfl ?_
  refine AW.scr (j := i + 3) X hX hL (nI_add i 3) (by omega) (L_law_d.d 40 rfl) ?_
  refine AW.run X L_law_d 41 4 rfl ?_
  refine AW.scr (j := i + 4) X hX hL (nI_add i 4) (by omega) (L_law_d.d 45 rfl) ?_
  refine AW.run X L_law_d 46 4 rfl ?_
  refine AW.scr (j := i + 5) X hX hL (nI_add i 5) (by omega) (L_law_d.d 50 rfl) ?_
  refine AW.callV (As := [.int (xs (i + 1)), .int (xs (i + 2)), .int (xs (i + 3)), .int (xs (i + 4)), .int (xs (i + 5))]) X hN cb_L_40 rfl rfl N_feed_im N_feed_se rfl ⟨Nat.le_of_ble_eq_true rfl, Nat.le_of_ble_eq_true rfl⟩ (Nat.le_of_ble_eq_true rfl) ⟨by rw [rm_c]; omega, by rw [rm_s]; omega⟩ (L_law_d.d 51 rfl) (fun v h' q => ?_)
  obtain ⟨rfl, S2, rfl, hI⟩ := q
  refine AW.run X L_law_d 52 5 rfl ?_
  refine AW.scr (j := i + 1) X hX hL (nI_o1 i) (by omega) (L_law_d.d 57 rfl) ?_
  refine AW.run X L_law_d 58 4 rfl ?_
  refine AW.scr (j := i + 2) X hX hL (nI_add i 2) (by omega) (L_law_d.d 62 rfl) ?_
  refine AW.run X L_law_d 63 4 rfl ?_
  refine AW.scr (j := i + 3) X hX hL (nI_add i 3) (by omega) (L_law_d.d 67 rfl) ?_
  refine AW.run X L_law_d 68 4 rfl ?_
  refine AW.scr (j := i + 4) X hX hL (nI_add i 4) (by omega) (L_law_d.d 72 rfl) ?_
  refine AW.run X L_law_d 73 4 rfl ?_
  refine AW.scr (j := i + 5) X hX hL (nI_add i 5) (by omega) (L_law_d.d 77 rfl) ?_
  refine AW.callV (As := [.int (xs (i + 1)), .int (xs (i + 2)), .int (xs (i + 3)), .int (xs (i + 4)), .int (xs (i + 5))]) X (hM S2 hI) cb_L_44 rfl rfl M_feed_im M_feed_se rfl ⟨Nat.le_of_ble_eq_true rfl, Nat.le_of_ble_eq_true rfl⟩ (Nat.le_of_ble_eq_true rfl) ⟨by rw [rm_c]; omega, by rw [rm_s]; omega⟩ (L_law_d.d 78 rfl) (fun v h' q => ?_)
  obtain ⟨rfl, hx⟩ := q
  refine AW.icmp_eq X (L_law_d.d 79 rfl) (fun q79 => ?_) (fun q79 => absurd rfl q79)
  exact AW.widen (by omega) (by omega) (kk _ hx)

set_option maxHeartbeats 4000000 in
set_option maxRecDepth 100000 in
theorem lw_drop (X : ax_X p m meth c s args VV G L_law_c 7 "NumberFunctionsLaw" pl_L (some .boolean)) (hLS : ax_LS G s) (hX : va_X (G.ph 89) L xs s G.H0) (hL : L ≤ 3072) (hi : i + 6 ≤ L) (hcs : cells + 6 ≤ 601024 ∧ slots + 8700 ≤ 7293034) (hP : Pd l G N_drop_y N_drop_c 2 0 [.ref 132] M_drop_y M_drop_c 2 0 [.ref 153] S M T) (kk : ∀ h', RX' h' → AW p l e room_1 s m args below meth c VV G 7 (h') (cells + 6) (slots + 8700) Q 592 [(4, .int (nI i)), (0, .ref 89), (1, .ref 132), (2, .ref 153), (3, .ref 173)] []) : AW p l e room_1 s m args below meth c VV G 7 (x_hM S M T) cells slots Q 281 [(4, .int (nI i)), (0, .ref 89), (1, .ref 132), (2, .ref 153), (3, .ref 173)] [] := by
  obtain ⟨val, MI, hN, hM⟩ := hP
  refine AW.run X L_law_d 152 1 rfl ?_
  refine AW.callV (As := []) X hN cb_L_58 rfl rfl N_drop_im N_drop_se rfl ⟨Nat.le_of_ble_eq_true rfl, Nat.le_of_ble_eq_true rfl⟩ (Nat.le_of_ble_eq_true rfl) ⟨by rw [rm_c]; omega, by rw [rm_s]; omega⟩ (L_law_d.d 153 rfl) (fun v h' q => ?_)
  obtain ⟨rfl, S2, rfl, hI⟩ := q
  refine AW.run X L_law_d 154 1 rfl ?_
  refine AW.callV (As := []) X (hM S2 hI) cb_L_61 rfl rfl M_drop_im M_drop_se rfl ⟨Nat.le_of_ble_eq_true rfl, Nat.le_of_ble_eq_true rfl⟩ (Nat.le_of_ble_eq_true rfl) ⟨by rw [rm_c]; omega, by rw [rm_s]; omega⟩ (L_law_d.d 155 rfl) (fun v h' q => ?_)
  obtain ⟨rfl, hx⟩ := q
  refine AW.icmp_eq X (L_law_d.d 156 rfl) (fun q156 => ?_) (fun q156 => absurd rfl q156)
  exact AW.widen (by omega) (by omega) (kk _ hx)

set_option maxHeartbeats 4000000 in
set_option maxRecDepth 100000 in
theorem lw_clear (X : ax_X p m meth c s args VV G L_law_c 7 "NumberFunctionsLaw" pl_L (some .boolean)) (hLS : ax_LS G s) (hX : va_X (G.ph 89) L xs s G.H0) (hL : L ≤ 3072) (hi : i + 6 ≤ L) (hcs : cells + 6 ≤ 601024 ∧ slots + 8700 ≤ 7293034) (hP : Pd l G N_clear_y N_clear_c 3 0 [.ref 132] M_clear_y M_clear_c 2 0 [.ref 153] S M T) (kk : ∀ h', RX' h' → AW p l e room_1 s m args below meth c VV G 7 (h') (cells + 6) (slots + 8700) Q 592 [(4, .int (nI i)), (0, .ref 89), (1, .ref 132), (2, .ref 153), (3, .ref 173)] []) : AW p l e room_1 s m args below meth c VV G 7 (x_hM S M T) cells slots Q 374 [(4, .int (nI i)), (0, .ref 89), (1, .ref 132), (2, .ref 153), (3, .ref 173)] [] := by
  obtain ⟨val, MI, hN, hM⟩ := hP
  refine AW.run X L_law_d 214 1 rfl ?_
  refine AW.callV (As := []) X hN cb_L_66 rfl rfl N_clear_im N_clear_se rfl ⟨Nat.le_of_ble_eq_true rfl, Nat.le_of_ble_eq_true rfl⟩ (Nat.le_of_ble_eq_true rfl) ⟨by rw [rm_c]; omega, by rw [rm_s]; omega⟩ (L_law_d.d 215 rfl) (fun v h' q => ?_)
  obtain ⟨rfl, S2, rfl, hI⟩ := q
  refine AW.run X L_law_d 216 1 rfl ?_
  refine AW.callV (As := []) X (hM S2 hI) cb_L_69 rfl rfl M_clear_im M_clear_se rfl ⟨Nat.le_of_ble_eq_true rfl, Nat.le_of_ble_eq_true rfl⟩ (Nat.le_of_ble_eq_true rfl) ⟨by rw [rm_c]; omega, by rw [rm_s]; omega⟩ (L_law_d.d 217 rfl) (fun v h' q => ?_)
  obtain ⟨rfl, hx⟩ := q
  refine AW.icmp_eq X (L_law_d.d 218 rfl) (fun q218 => ?_) (fun q218 => absurd rfl q218)
  exact AW.widen (by omega) (by omega) (kk _ hx)

set_option maxHeartbeats 4000000 in
set_option maxRecDepth 100000 in
theorem lw_fault (X : ax_X p m meth c s args VV G L_law_c 7 "NumberFunctionsLaw" pl_L (some .boolean)) (hLS : ax_LS G s) (hX : va_X (G.ph 89) L xs s G.H0) (hL : L ≤ 3072) (hi : i + 6 ≤ L) (hcs : cells + 6 ≤ 601024 ∧ slots + 8700 ≤ 7293034) (hP : Pd l G N_fault_y N_fault_c 2 0 [.ref 132, .int (xs (i + 1))] M_fault_y M_fault_c 2 0 [.ref 153, .int (xs (i + 1))] S M T) (kk : ∀ h', RX' h' → AW p l e room_1 s m args below meth c VV G 7 (h') (cells + 6) (slots + 8700) Q 592 [(4, .int (nI i)), (0, .ref 89), (1, .ref 132), (2, .ref 153), (3, .ref 173)] []) : AW p l e room_1 s m args below meth c VV G 7 (x_hM S M T) cells slots Q 567 [(4, .int (nI i)), (0, .ref 89), (1, .ref 132), (2, .ref 153), (3, .ref 173)] [] := by
  obtain ⟨val, MI, hN, hM⟩ := hP
  refine AW.run X L_law_d 336 5 rfl ?_
  refine AW.scr (j := i + 1) X hX hL (nI_o1 i) (by omega) (L_law_d.d 341 rfl) ?_
  refine AW.callV (As := [.int (xs (i + 1))]) X hN cb_L_80 rfl rfl N_fault_im N_fault_se rfl ⟨Nat.le_of_ble_eq_true rfl, Nat.le_of_ble_eq_true rfl⟩ (Nat.le_of_ble_eq_true rfl) ⟨by rw [rm_c]; omega, by rw [rm_s]; omega⟩ (L_law_d.d 342 rfl) (fun v h' q => ?_)
  obtain ⟨rfl, S2, rfl, hI⟩ := q
  refine AW.run X L_law_d 343 5 rfl ?_
  refine AW.scr (j := i + 1) X hX hL (nI_o1 i) (by omega) (L_law_d.d 348 rfl) ?_
  refine AW.callV (As := [.int (xs (i + 1))]) X (hM S2 hI) cb_L_83 rfl rfl M_fault_im M_fault_se rfl ⟨Nat.le_of_ble_eq_true rfl, Nat.le_of_ble_eq_true rfl⟩ (Nat.le_of_ble_eq_true rfl) ⟨by rw [rm_c]; omega, by rw [rm_s]; omega⟩ (L_law_d.d 349 rfl) (fun v h' q => ?_)
  obtain ⟨rfl, hx⟩ := q
  refine AW.icmp_eq X (L_law_d.d 350 rfl) (fun q350 => ?_) (fun q350 => absurd rfl q350)
  exact AW.widen (by omega) (by omega) (kk _ hx)

set_option maxHeartbeats 4000000 in
set_option maxRecDepth 100000 in
theorem lw_cutS (X : ax_X p m meth c s args VV G L_law_c 7 "NumberFunctionsLaw" pl_L (some .boolean)) (hLS : ax_LS G s) (hX : va_X (G.ph 89) L xs s G.H0) (hL : L ≤ 3072) (hi : i + 6 ≤ L) (hcs : cells + 6 ≤ 601024 ∧ slots + 8700 ≤ 7293034) (hP : Pr l G N_cut_y N_cut_c 3 1 0 0 [.ref 132, .int (xs (i + 1))] M_cut_y M_cut_c 3 1 [.ref 153, .int (xs (i + 1))] S M T B) (kk : ∀ h', RX' h' → AW p l e room_1 s m args below meth c VV G 7 (h') (cells + 6) (slots + 8700) Q 592 [(4, .int (nI i)), (0, .ref 89), (1, .ref 132), (2, .ref 153), (3, .ref 173)] []) : AW p l e room_1 s m args below meth c VV G 7 (x_hM S M T) cells slots Q 169 [(4, .int (nI i)), (0, .ref 89), (1, .ref 132), (2, .ref 153), (3, .ref 173)] [] := by
  obtain ⟨val, MI, hN, hM⟩ := hP
  refine AW.run X L_law_d 82 5 rfl ?_
  refine AW.scr (j := i + 1) X hX hL (nI_o1 i) (by omega) (L_law_d.d 87 rfl) ?_
  refine AW.run X L_law_d 88 1 rfl ?_
  refine AW.callSH (As := [.ref 132, .int (xs (i + 1)), .ref 173]) X hLS (L_cutS_m S M T (xs (i + 1)) B val MI hN) ch_L_45 rfl ⟨Nat.le_of_ble_eq_true rfl, Nat.le_of_ble_eq_true rfl⟩ (Nat.le_of_ble_eq_true rfl) ⟨by rw [rm_c]; omega, by rw [rm_s]; omega⟩ (L_law_d.d 89 rfl) (fun v h' q => ?_)
  obtain ⟨rfl, S2, T2, w2, rfl, hw2, hI⟩ := q
  refine AW.run X L_law_d 90 6 rfl ?_
  refine AW.scr (j := i + 1) X hX hL (nI_o1 i) (by omega) (L_law_d.d 96 rfl) ?_
  refine AW.callV (As := [.int (xs (i + 1))]) X (hM S2 T2 w2 hI) cb_L_50 rfl rfl M_cut_im M_cut_se rfl ⟨Nat.le_of_ble_eq_true rfl, Nat.le_of_ble_eq_true rfl⟩ (Nat.le_of_ble_eq_true rfl) ⟨by rw [rm_c]; omega, by rw [rm_s]; omega⟩ (L_law_d.d 97 rfl) (fun v h' q => ?_)
  obtain ⟨rfl, M2, rfl, h0, B2, r2, n2, nf2, hR2, hA2, hT2⟩ := q
  have hlt : 0 < T2.length := by
    obtain ⟨-, ⟨w9, e9⟩, -⟩ := hT2
    have := lt_of e9
    rw [List.length_set] at this
    exact this
  refine AW.run X L_law_d 98 2 rfl ?_
  refine AW.callV (As := []) X (M_thrown_m S2 M2 (T2.set 0 (oC w2))) cb_L_51 rfl rfl M_thrown_im M_thrown_se rfl ⟨Nat.le_of_ble_eq_true rfl, Nat.le_of_ble_eq_true rfl⟩ (Nat.le_of_ble_eq_true rfl) ⟨by rw [rm_c]; omega, by rw [rm_s]; omega⟩ (L_law_d.d 100 rfl) (fun v h' q => ?_)
  obtain ⟨rfl, rfl⟩ := q
  rw [h0]
  refine AW.run X L_law_d 101 1 rfl ?_
  refine AW.icmp_eq X (L_law_d.d 102 rfl) (fun q102 => ?_) (fun q102 => absurd rfl q102)
  refine AW.run X L_law_d 105 1 rfl ?_
  refine AW.if_ne X (L_law_d.d 106 rfl) (fun q106 => absurd rfl q106) (fun q106 => ?_)
  refine AW.run X L_law_d 107 2 rfl ?_
  refine AW.lald (t := 2) (n := 1) (j := 0) X (x_hMo (List.getElem?_set_self hlt)) rfl rfl (by decide) (by decide) (L_law_d.d 109 rfl) ?_
  rw [hw2]
  refine AW.run X L_law_d 110 3 rfl ?_
  refine AW.if_eq X (L_law_d.d 113 rfl) (fun q113 => ?_) (fun q113 => absurd ((lg_cmp_eq _ _).mpr rfl) q113)
  refine AW.goto X (L_law_d.d 116 rfl) ?_
  refine AW.pk [2, 3, 4, 5, 6] rfl ?_
  exact AW.widen (by omega) (by omega) (kk _ (RX'.of hR2 hA2 hT2))

set_option maxHeartbeats 4000000 in
set_option maxRecDepth 100000 in
theorem lw_cutT (X : ax_X p m meth c s args VV G L_law_c 7 "NumberFunctionsLaw" pl_L (some .boolean)) (hLS : ax_LS G s) (hX : va_X (G.ph 89) L xs s G.H0) (hL : L ≤ 3072) (hi : i + 6 ≤ L) (hcs : cells + 6 ≤ 601024 ∧ slots + 8700 ≤ 7293034) (hP : Th l G N_cut_y N_cut_c 3 [.ref 132, .int (xs (i + 1))] M_cut_y M_cut_c 3 1 [.ref 153, .int (xs (i + 1))] S M T 10 1) (hR : RS S M r n nf) (hA : FA S M T B nf) (hO : OT T B) (kk : ∀ h', RX' h' → AW p l e room_1 s m args below meth c VV G 7 (h') (cells + 6) (slots + 8700) Q 592 [(4, .int (nI i)), (0, .ref 89), (1, .ref 132), (2, .ref 153), (3, .ref 173)] []) : AW p l e room_1 s m args below meth c VV G 7 (x_hM S M T) cells slots Q 169 [(4, .int (nI i)), (0, .ref 89), (1, .ref 132), (2, .ref 153), (3, .ref 173)] [] := by
  obtain ⟨hT, hM⟩ := hP
  refine AW.run X L_law_d 82 5 rfl ?_
  refine AW.scr (j := i + 1) X hX hL (nI_o1 i) (by omega) (L_law_d.d 87 rfl) ?_
  refine AW.run X L_law_d 88 1 rfl ?_
  refine AW.callSH (As := [.ref 132, .int (xs (i + 1)), .ref 173]) X hLS (L_cutT_m S M T (xs (i + 1)) hT) ch_L_45 rfl ⟨Nat.le_of_ble_eq_true rfl, Nat.le_of_ble_eq_true rfl⟩ (Nat.le_of_ble_eq_true rfl) ⟨by rw [rm_c]; omega, by rw [rm_s]; omega⟩ (L_law_d.d 89 rfl) (fun v h' q => ?_)
  obtain ⟨rfl, rfl⟩ := q
  refine AW.run X L_law_d 90 6 rfl ?_
  refine AW.scr (j := i + 1) X hX hL (nI_o1 i) (by omega) (L_law_d.d 96 rfl) ?_
  have hh := hM (T ++ [.inr (10, [])])
  refine AW.callV (As := [.int (xs (i + 1))]) X hh cb_L_50 rfl rfl M_cut_im M_cut_se rfl ⟨Nat.le_of_ble_eq_true rfl, Nat.le_of_ble_eq_true rfl⟩ (Nat.le_of_ble_eq_true rfl) ⟨by rw [rm_c]; omega, by rw [rm_s]; omega⟩ (L_law_d.d 97 rfl) (fun v h' q => ?_)
  obtain ⟨⟨x9, rfl⟩, rfl⟩ := q
  refine AW.run X L_law_d 98 2 rfl ?_
  have hh2 := M_thrown_m (l := l) (G := G) S (y_i M 0 1) (T ++ [.inr (10, [])])
  refine AW.callV (As := []) X hh2 cb_L_51 rfl rfl M_thrown_im M_thrown_se rfl ⟨Nat.le_of_ble_eq_true rfl, Nat.le_of_ble_eq_true rfl⟩ (Nat.le_of_ble_eq_true rfl) ⟨by rw [rm_c]; omega, by rw [rm_s]; omega⟩ (L_law_d.d 100 rfl) (fun v h' q => ?_)
  obtain ⟨rfl, rfl⟩ := q
  rw [show (y_i M 0 1).1 0 = 1 from rfl]
  refine AW.run X L_law_d 101 1 rfl ?_
  refine AW.icmp_eq X (L_law_d.d 102 rfl) (fun q102 => ?_) (fun q102 => absurd rfl q102)
  refine AW.run X L_law_d 105 1 rfl ?_
  refine AW.if_ne X (L_law_d.d 106 rfl) (fun q106 => ?_) (fun q106 => absurd q106 (by decide))
  refine AW.goto X (L_law_d.d 116 rfl) ?_
  refine AW.pk [2, 3, 4, 5, 6] rfl ?_
  have h1 : RS S (y_i M 0 1) r n nf := hR.t 1
  have h2 : FA S M (T ++ [.inr (10, [])]) B nf := hA.app _
  have h3 : FA S (y_i M 0 1) (T ++ [.inr (10, [])]) B nf := h2.M' (fun _ _ _ => rfl)
  have h4 : OT (T ++ [.inr (10, [])]) B := hO.app (nf_1 rfl nf_0)
  have h5 := RX'.of h1 h3 h4
  exact AW.widen (by omega) (by omega) (kk _ h5)

set_option maxHeartbeats 4000000 in
set_option maxRecDepth 100000 in
theorem lw_tellS (X : ax_X p m meth c s args VV G L_law_c 7 "NumberFunctionsLaw" pl_L (some .boolean)) (hLS : ax_LS G s) (hX : va_X (G.ph 89) L xs s G.H0) (hL : L ≤ 3072) (hi : i + 6 ≤ L) (hcs : cells + 6 ≤ 601024 ∧ slots + 8700 ≤ 7293034) (hP : Pr l G N_tell_y N_tell_c 2 1 0 0 [.ref 132, .int (xs (i + 1))] M_tell_y M_tell_c 2 1 [.ref 153, .int (xs (i + 1))] S M T B) (kk : ∀ h', RX' h' → AW p l e room_1 s m args below meth c VV G 7 (h') (cells + 6) (slots + 8700) Q 592 [(4, .int (nI i)), (0, .ref 89), (1, .ref 132), (2, .ref 153), (3, .ref 173)] []) : AW p l e room_1 s m args below meth c VV G 7 (x_hM S M T) cells slots Q 225 [(4, .int (nI i)), (0, .ref 89), (1, .ref 132), (2, .ref 153), (3, .ref 173)] [] := by
  obtain ⟨val, MI, hN, hM⟩ := hP
  refine AW.run X L_law_d 117 5 rfl ?_
  refine AW.scr (j := i + 1) X hX hL (nI_o1 i) (by omega) (L_law_d.d 122 rfl) ?_
  refine AW.run X L_law_d 123 1 rfl ?_
  refine AW.callSH (As := [.ref 132, .int (xs (i + 1)), .ref 173]) X hLS (L_tellS_m S M T (xs (i + 1)) B val MI hN) ch_L_55 rfl ⟨Nat.le_of_ble_eq_true rfl, Nat.le_of_ble_eq_true rfl⟩ (Nat.le_of_ble_eq_true rfl) ⟨by rw [rm_c]; omega, by rw [rm_s]; omega⟩ (L_law_d.d 124 rfl) (fun v h' q => ?_)
  obtain ⟨rfl, S2, T2, w2, rfl, hw2, hI⟩ := q
  refine AW.run X L_law_d 125 6 rfl ?_
  refine AW.scr (j := i + 1) X hX hL (nI_o1 i) (by omega) (L_law_d.d 131 rfl) ?_
  refine AW.callV (As := [.int (xs (i + 1))]) X (hM S2 T2 w2 hI) cb_L_57 rfl rfl M_tell_im M_tell_se rfl ⟨Nat.le_of_ble_eq_true rfl, Nat.le_of_ble_eq_true rfl⟩ (Nat.le_of_ble_eq_true rfl) ⟨by rw [rm_c]; omega, by rw [rm_s]; omega⟩ (L_law_d.d 132 rfl) (fun v h' q => ?_)
  obtain ⟨rfl, M2, rfl, h0, B2, r2, n2, nf2, hR2, hA2, hT2⟩ := q
  have hlt : 0 < T2.length := by
    obtain ⟨-, ⟨w9, e9⟩, -⟩ := hT2
    have := lt_of e9
    rw [List.length_set] at this
    exact this
  refine AW.run X L_law_d 133 2 rfl ?_
  refine AW.callV (As := []) X (M_thrown_m S2 M2 (T2.set 0 (oC w2))) cb_L_51 rfl rfl M_thrown_im M_thrown_se rfl ⟨Nat.le_of_ble_eq_true rfl, Nat.le_of_ble_eq_true rfl⟩ (Nat.le_of_ble_eq_true rfl) ⟨by rw [rm_c]; omega, by rw [rm_s]; omega⟩ (L_law_d.d 135 rfl) (fun v h' q => ?_)
  obtain ⟨rfl, rfl⟩ := q
  rw [h0]
  refine AW.run X L_law_d 136 1 rfl ?_
  refine AW.icmp_eq X (L_law_d.d 137 rfl) (fun q137 => ?_) (fun q137 => absurd rfl q137)
  refine AW.run X L_law_d 140 1 rfl ?_
  refine AW.if_ne X (L_law_d.d 141 rfl) (fun q141 => absurd rfl q141) (fun q141 => ?_)
  refine AW.run X L_law_d 142 2 rfl ?_
  refine AW.lald (t := 2) (n := 1) (j := 0) X (x_hMo (List.getElem?_set_self hlt)) rfl rfl (by decide) (by decide) (L_law_d.d 144 rfl) ?_
  rw [hw2]
  refine AW.run X L_law_d 145 3 rfl ?_
  refine AW.if_eq X (L_law_d.d 148 rfl) (fun q148 => ?_) (fun q148 => absurd ((lg_cmp_eq _ _).mpr rfl) q148)
  refine AW.goto X (L_law_d.d 151 rfl) ?_
  refine AW.pk [2, 3, 4, 5, 6] rfl ?_
  exact AW.widen (by omega) (by omega) (kk _ (RX'.of hR2 hA2 hT2))

set_option maxHeartbeats 4000000 in
set_option maxRecDepth 100000 in
theorem lw_tellT (X : ax_X p m meth c s args VV G L_law_c 7 "NumberFunctionsLaw" pl_L (some .boolean)) (hLS : ax_LS G s) (hX : va_X (G.ph 89) L xs s G.H0) (hL : L ≤ 3072) (hi : i + 6 ≤ L) (hcs : cells + 6 ≤ 601024 ∧ slots + 8700 ≤ 7293034) (hP : Th l G N_tell_y N_tell_c 2 [.ref 132, .int (xs (i + 1))] M_tell_y M_tell_c 2 1 [.ref 153, .int (xs (i + 1))] S M T 10 1) (hR : RS S M r n nf) (hA : FA S M T B nf) (hO : OT T B) (kk : ∀ h', RX' h' → AW p l e room_1 s m args below meth c VV G 7 (h') (cells + 6) (slots + 8700) Q 592 [(4, .int (nI i)), (0, .ref 89), (1, .ref 132), (2, .ref 153), (3, .ref 173)] []) : AW p l e room_1 s m args below meth c VV G 7 (x_hM S M T) cells slots Q 225 [(4, .int (nI i)), (0, .ref 89), (1, .ref 132), (2, .ref 153), (3, .ref 173)] [] := by
  obtain ⟨hT, hM⟩ := hP
  refine AW.run X L_law_d 117 5 rfl ?_
  refine AW.scr (j := i + 1) X hX hL (nI_o1 i) (by omega) (L_law_d.d 122 rfl) ?_
  refine AW.run X L_law_d 123 1 rfl ?_
  refine AW.callSH (As := [.ref 132, .int (xs (i + 1)), .ref 173]) X hLS (L_tellT_m S M T (xs (i + 1)) hT) ch_L_55 rfl ⟨Nat.le_of_ble_eq_true rfl, Nat.le_of_ble_eq_true rfl⟩ (Nat.le_of_ble_eq_true rfl) ⟨by rw [rm_c]; omega, by rw [rm_s]; omega⟩ (L_law_d.d 124 rfl) (fun v h' q => ?_)
  obtain ⟨rfl, rfl⟩ := q
  refine AW.run X L_law_d 125 6 rfl ?_
  refine AW.scr (j := i + 1) X hX hL (nI_o1 i) (by omega) (L_law_d.d 131 rfl) ?_
  have hh := hM (T ++ [.inr (10, [])])
  refine AW.callV (As := [.int (xs (i + 1))]) X hh cb_L_57 rfl rfl M_tell_im M_tell_se rfl ⟨Nat.le_of_ble_eq_true rfl, Nat.le_of_ble_eq_true rfl⟩ (Nat.le_of_ble_eq_true rfl) ⟨by rw [rm_c]; omega, by rw [rm_s]; omega⟩ (L_law_d.d 132 rfl) (fun v h' q => ?_)
  obtain ⟨⟨x9, rfl⟩, rfl⟩ := q
  refine AW.run X L_law_d 133 2 rfl ?_
  have hh2 := M_thrown_m (l := l) (G := G) S (y_i M 0 1) (T ++ [.inr (10, [])])
  refine AW.callV (As := []) X hh2 cb_L_51 rfl rfl M_thrown_im M_thrown_se rfl ⟨Nat.le_of_ble_eq_true rfl, Nat.le_of_ble_eq_true rfl⟩ (Nat.le_of_ble_eq_true rfl) ⟨by rw [rm_c]; omega, by rw [rm_s]; omega⟩ (L_law_d.d 135 rfl) (fun v h' q => ?_)
  obtain ⟨rfl, rfl⟩ := q
  rw [show (y_i M 0 1).1 0 = 1 from rfl]
  refine AW.run X L_law_d 136 1 rfl ?_
  refine AW.icmp_eq X (L_law_d.d 137 rfl) (fun q137 => ?_) (fun q137 => absurd rfl q137)
  refine AW.run X L_law_d 140 1 rfl ?_
  refine AW.if_ne X (L_law_d.d 141 rfl) (fun q141 => ?_) (fun q141 => absurd q141 (by decide))
  refine AW.goto X (L_law_d.d 151 rfl) ?_
  refine AW.pk [2, 3, 4, 5, 6] rfl ?_
  have h1 : RS S (y_i M 0 1) r n nf := hR.t 1
  have h2 : FA S M (T ++ [.inr (10, [])]) B nf := hA.app _
  have h3 : FA S (y_i M 0 1) (T ++ [.inr (10, [])]) B nf := h2.M' (fun _ _ _ => rfl)
  have h4 : OT (T ++ [.inr (10, [])]) B := hO.app (nf_1 rfl nf_0)
  have h5 := RX'.of h1 h3 h4
  exact AW.widen (by omega) (by omega) (kk _ h5)

set_option maxHeartbeats 4000000 in
set_option maxRecDepth 100000 in
theorem lw_tellU (X : ax_X p m meth c s args VV G L_law_c 7 "NumberFunctionsLaw" pl_L (some .boolean)) (hLS : ax_LS G s) (hX : va_X (G.ph 89) L xs s G.H0) (hL : L ≤ 3072) (hi : i + 6 ≤ L) (hcs : cells + 6 ≤ 601024 ∧ slots + 8700 ≤ 7293034) (hP : Th l G N_tell_y N_tell_c 2 [.ref 132, .int (xs (i + 1))] M_tell_y M_tell_c 2 1 [.ref 153, .int (xs (i + 1))] S M T 11 2) (hR : RS S M r n nf) (hA : FA S M T B nf) (hO : OT T B) (kk : ∀ h', RX' h' → AW p l e room_1 s m args below meth c VV G 7 (h') (cells + 6) (slots + 8700) Q 592 [(4, .int (nI i)), (0, .ref 89), (1, .ref 132), (2, .ref 153), (3, .ref 173)] []) : AW p l e room_1 s m args below meth c VV G 7 (x_hM S M T) cells slots Q 225 [(4, .int (nI i)), (0, .ref 89), (1, .ref 132), (2, .ref 153), (3, .ref 173)] [] := by
  obtain ⟨hT, hM⟩ := hP
  refine AW.run X L_law_d 117 5 rfl ?_
  refine AW.scr (j := i + 1) X hX hL (nI_o1 i) (by omega) (L_law_d.d 122 rfl) ?_
  refine AW.run X L_law_d 123 1 rfl ?_
  refine AW.callSH (As := [.ref 132, .int (xs (i + 1)), .ref 173]) X hLS (L_tellU_m S M T (xs (i + 1)) hT) ch_L_55 rfl ⟨Nat.le_of_ble_eq_true rfl, Nat.le_of_ble_eq_true rfl⟩ (Nat.le_of_ble_eq_true rfl) ⟨by rw [rm_c]; omega, by rw [rm_s]; omega⟩ (L_law_d.d 124 rfl) (fun v h' q => ?_)
  obtain ⟨rfl, rfl⟩ := q
  refine AW.run X L_law_d 125 6 rfl ?_
  refine AW.scr (j := i + 1) X hX hL (nI_o1 i) (by omega) (L_law_d.d 131 rfl) ?_
  have hh := hM (T ++ [.inr (11, [])])
  refine AW.callV (As := [.int (xs (i + 1))]) X hh cb_L_57 rfl rfl M_tell_im M_tell_se rfl ⟨Nat.le_of_ble_eq_true rfl, Nat.le_of_ble_eq_true rfl⟩ (Nat.le_of_ble_eq_true rfl) ⟨by rw [rm_c]; omega, by rw [rm_s]; omega⟩ (L_law_d.d 132 rfl) (fun v h' q => ?_)
  obtain ⟨⟨x9, rfl⟩, rfl⟩ := q
  refine AW.run X L_law_d 133 2 rfl ?_
  have hh2 := M_thrown_m (l := l) (G := G) S (y_i M 0 2) (T ++ [.inr (11, [])])
  refine AW.callV (As := []) X hh2 cb_L_51 rfl rfl M_thrown_im M_thrown_se rfl ⟨Nat.le_of_ble_eq_true rfl, Nat.le_of_ble_eq_true rfl⟩ (Nat.le_of_ble_eq_true rfl) ⟨by rw [rm_c]; omega, by rw [rm_s]; omega⟩ (L_law_d.d 135 rfl) (fun v h' q => ?_)
  obtain ⟨rfl, rfl⟩ := q
  rw [show (y_i M 0 2).1 0 = 2 from rfl]
  refine AW.run X L_law_d 136 1 rfl ?_
  refine AW.icmp_eq X (L_law_d.d 137 rfl) (fun q137 => ?_) (fun q137 => absurd rfl q137)
  refine AW.run X L_law_d 140 1 rfl ?_
  refine AW.if_ne X (L_law_d.d 141 rfl) (fun q141 => ?_) (fun q141 => absurd q141 (by decide))
  refine AW.goto X (L_law_d.d 151 rfl) ?_
  refine AW.pk [2, 3, 4, 5, 6] rfl ?_
  have h1 : RS S (y_i M 0 2) r n nf := hR.t 2
  have h2 : FA S M (T ++ [.inr (11, [])]) B nf := hA.app _
  have h3 : FA S (y_i M 0 2) (T ++ [.inr (11, [])]) B nf := h2.M' (fun _ _ _ => rfl)
  have h4 : OT (T ++ [.inr (11, [])]) B := hO.app (nf_1 rfl nf_0)
  have h5 := RX'.of h1 h3 h4
  exact AW.widen (by omega) (by omega) (kk _ h5)

set_option maxHeartbeats 4000000 in
set_option maxRecDepth 100000 in
theorem lw_makeS (X : ax_X p m meth c s args VV G L_law_c 7 "NumberFunctionsLaw" pl_L (some .boolean)) (hLS : ax_LS G s) (hX : va_X (G.ph 89) L xs s G.H0) (hL : L ≤ 3072) (hi : i + 6 ≤ L) (hcs : cells + 6 ≤ 601024 ∧ slots + 8700 ≤ 7293034) (hP : Pr l G N_make_y N_make_c 5 9 6 8700 [.ref 132, .int (xs (i + 1)), .int (xs (i + 2)), .int (xs (i + 3))] M_make_y M_make_c 6 9 [.ref 153, .int (xs (i + 1)), .int (xs (i + 2)), .int (xs (i + 3))] S M T B) (kk : ∀ h', RX' h' → AW p l e room_1 s m args below meth c VV G 7 (h') (cells + 6) (slots + 8700) Q 592 [(4, .int (nI i)), (0, .ref 89), (1, .ref 132), (2, .ref 153), (3, .ref 173)] []) : AW p l e room_1 s m args below meth c VV G 7 (x_hM S M T) cells slots Q 294 [(4, .int (nI i)), (0, .ref 89), (1, .ref 132), (2, .ref 153), (3, .ref 173)] [] := by
  obtain ⟨val, MI, hN, hM⟩ := hP
  refine AW.run X L_law_d 159 5 rfl ?_
  refine AW.scr (j := i + 1) X hX hL (nI_o1 i) (by omega) (L_law_d.d 164 rfl) ?_
  refine AW.run X L_law_d 165 4 rfl ?_
  refine AW.scr (j := i + 2) X hX hL (nI_add i 2) (by omega) (L_law_d.d 169 rfl) ?_
  refine AW.run X L_law_d 170 4 rfl ?_
  refine AW.scr (j := i + 3) X hX hL (nI_add i 3) (by omega) (L_law_d.d 174 rfl) ?_
  refine AW.run X L_law_d 175 1 rfl ?_
  refine AW.callSH (As := [.ref 132, .int (xs (i + 1)), .int (xs (i + 2)), .int (xs (i + 3)), .ref 173]) X hLS (L_makeS_m S M T (xs (i + 1)) (xs (i + 2)) (xs (i + 3)) B val MI hN) ch_L_62 rfl ⟨Nat.le_of_ble_eq_true rfl, Nat.le_of_ble_eq_true rfl⟩ (Nat.le_of_ble_eq_true rfl) ⟨by rw [rm_c]; omega, by rw [rm_s]; omega⟩ (L_law_d.d 176 rfl) (fun v h' q => ?_)
  obtain ⟨rfl, S2, T2, w2, rfl, hw2, hI⟩ := q
  refine AW.run X L_law_d 177 6 rfl ?_
  refine AW.scr (j := i + 1) X hX hL (nI_o1 i) (by omega) (L_law_d.d 183 rfl) ?_
  refine AW.run X L_law_d 184 4 rfl ?_
  refine AW.scr (j := i + 2) X hX hL (nI_add i 2) (by omega) (L_law_d.d 188 rfl) ?_
  refine AW.run X L_law_d 189 4 rfl ?_
  refine AW.scr (j := i + 3) X hX hL (nI_add i 3) (by omega) (L_law_d.d 193 rfl) ?_
  refine AW.callV (As := [.int (xs (i + 1)), .int (xs (i + 2)), .int (xs (i + 3))]) X (hM S2 T2 w2 hI) cb_L_65 rfl rfl M_make_im M_make_se rfl ⟨Nat.le_of_ble_eq_true rfl, Nat.le_of_ble_eq_true rfl⟩ (Nat.le_of_ble_eq_true rfl) ⟨by rw [rm_c]; omega, by rw [rm_s]; omega⟩ (L_law_d.d 194 rfl) (fun v h' q => ?_)
  obtain ⟨rfl, M2, rfl, h0, B2, r2, n2, nf2, hR2, hA2, hT2⟩ := q
  have hlt : 0 < T2.length := by
    obtain ⟨-, ⟨w9, e9⟩, -⟩ := hT2
    have := lt_of e9
    rw [List.length_set] at this
    exact this
  refine AW.run X L_law_d 195 2 rfl ?_
  refine AW.callV (As := []) X (M_thrown_m S2 M2 (T2.set 0 (oC w2))) cb_L_51 rfl rfl M_thrown_im M_thrown_se rfl ⟨Nat.le_of_ble_eq_true rfl, Nat.le_of_ble_eq_true rfl⟩ (Nat.le_of_ble_eq_true rfl) ⟨by rw [rm_c]; omega, by rw [rm_s]; omega⟩ (L_law_d.d 197 rfl) (fun v h' q => ?_)
  obtain ⟨rfl, rfl⟩ := q
  rw [h0]
  refine AW.run X L_law_d 198 1 rfl ?_
  refine AW.icmp_eq X (L_law_d.d 199 rfl) (fun q199 => ?_) (fun q199 => absurd rfl q199)
  refine AW.run X L_law_d 202 1 rfl ?_
  refine AW.if_ne X (L_law_d.d 203 rfl) (fun q203 => absurd rfl q203) (fun q203 => ?_)
  refine AW.run X L_law_d 204 2 rfl ?_
  refine AW.lald (t := 2) (n := 1) (j := 0) X (x_hMo (List.getElem?_set_self hlt)) rfl rfl (by decide) (by decide) (L_law_d.d 206 rfl) ?_
  rw [hw2]
  refine AW.run X L_law_d 207 3 rfl ?_
  refine AW.if_eq X (L_law_d.d 210 rfl) (fun q210 => ?_) (fun q210 => absurd ((lg_cmp_eq _ _).mpr rfl) q210)
  refine AW.goto X (L_law_d.d 213 rfl) ?_
  refine AW.pk [2, 3, 4, 5, 6] rfl ?_
  exact AW.widen (by omega) (by omega) (kk _ (RX'.of hR2 hA2 hT2))

set_option maxHeartbeats 4000000 in
set_option maxRecDepth 100000 in
theorem lw_makeT (X : ax_X p m meth c s args VV G L_law_c 7 "NumberFunctionsLaw" pl_L (some .boolean)) (hLS : ax_LS G s) (hX : va_X (G.ph 89) L xs s G.H0) (hL : L ≤ 3072) (hi : i + 6 ≤ L) (hcs : cells + 6 ≤ 601024 ∧ slots + 8700 ≤ 7293034) (hP : Th l G N_make_y N_make_c 5 [.ref 132, .int (xs (i + 1)), .int (xs (i + 2)), .int (xs (i + 3))] M_make_y M_make_c 6 9 [.ref 153, .int (xs (i + 1)), .int (xs (i + 2)), .int (xs (i + 3))] S M T 10 1) (hR : RS S M r n nf) (hA : FA S M T B nf) (hO : OT T B) (kk : ∀ h', RX' h' → AW p l e room_1 s m args below meth c VV G 7 (h') (cells + 6) (slots + 8700) Q 592 [(4, .int (nI i)), (0, .ref 89), (1, .ref 132), (2, .ref 153), (3, .ref 173)] []) : AW p l e room_1 s m args below meth c VV G 7 (x_hM S M T) cells slots Q 294 [(4, .int (nI i)), (0, .ref 89), (1, .ref 132), (2, .ref 153), (3, .ref 173)] [] := by
  obtain ⟨hT, hM⟩ := hP
  refine AW.run X L_law_d 159 5 rfl ?_
  refine AW.scr (j := i + 1) X hX hL (nI_o1 i) (by omega) (L_law_d.d 164 rfl) ?_
  refine AW.run X L_law_d 165 4 rfl ?_
  refine AW.scr (j := i + 2) X hX hL (nI_add i 2) (by omega) (L_law_d.d 169 rfl) ?_
  refine AW.run X L_law_d 170 4 rfl ?_
  refine AW.scr (j := i + 3) X hX hL (nI_add i 3) (by omega) (L_law_d.d 174 rfl) ?_
  refine AW.run X L_law_d 175 1 rfl ?_
  refine AW.callSH (As := [.ref 132, .int (xs (i + 1)), .int (xs (i + 2)), .int (xs (i + 3)), .ref 173]) X hLS (L_makeT_m S M T (xs (i + 1)) (xs (i + 2)) (xs (i + 3)) hT) ch_L_62 rfl ⟨Nat.le_of_ble_eq_true rfl, Nat.le_of_ble_eq_true rfl⟩ (Nat.le_of_ble_eq_true rfl) ⟨by rw [rm_c]; omega, by rw [rm_s]; omega⟩ (L_law_d.d 176 rfl) (fun v h' q => ?_)
  obtain ⟨rfl, rfl⟩ := q
  refine AW.run X L_law_d 177 6 rfl ?_
  refine AW.scr (j := i + 1) X hX hL (nI_o1 i) (by omega) (L_law_d.d 183 rfl) ?_
  refine AW.run X L_law_d 184 4 rfl ?_
  refine AW.scr (j := i + 2) X hX hL (nI_add i 2) (by omega) (L_law_d.d 188 rfl) ?_
  refine AW.run X L_law_d 189 4 rfl ?_
  refine AW.scr (j := i + 3) X hX hL (nI_add i 3) (by omega) (L_law_d.d 193 rfl) ?_
  have hh := hM (T ++ [.inr (10, [])])
  refine AW.callV (As := [.int (xs (i + 1)), .int (xs (i + 2)), .int (xs (i + 3))]) X hh cb_L_65 rfl rfl M_make_im M_make_se rfl ⟨Nat.le_of_ble_eq_true rfl, Nat.le_of_ble_eq_true rfl⟩ (Nat.le_of_ble_eq_true rfl) ⟨by rw [rm_c]; omega, by rw [rm_s]; omega⟩ (L_law_d.d 194 rfl) (fun v h' q => ?_)
  obtain ⟨⟨x9, rfl⟩, rfl⟩ := q
  refine AW.run X L_law_d 195 2 rfl ?_
  have hh2 := M_thrown_m (l := l) (G := G) S (y_i M 0 1) (T ++ [.inr (10, [])])
  refine AW.callV (As := []) X hh2 cb_L_51 rfl rfl M_thrown_im M_thrown_se rfl ⟨Nat.le_of_ble_eq_true rfl, Nat.le_of_ble_eq_true rfl⟩ (Nat.le_of_ble_eq_true rfl) ⟨by rw [rm_c]; omega, by rw [rm_s]; omega⟩ (L_law_d.d 197 rfl) (fun v h' q => ?_)
  obtain ⟨rfl, rfl⟩ := q
  rw [show (y_i M 0 1).1 0 = 1 from rfl]
  refine AW.run X L_law_d 198 1 rfl ?_
  refine AW.icmp_eq X (L_law_d.d 199 rfl) (fun q199 => ?_) (fun q199 => absurd rfl q199)
  refine AW.run X L_law_d 202 1 rfl ?_
  refine AW.if_ne X (L_law_d.d 203 rfl) (fun q203 => ?_) (fun q203 => absurd q203 (by decide))
  refine AW.goto X (L_law_d.d 213 rfl) ?_
  refine AW.pk [2, 3, 4, 5, 6] rfl ?_
  have h1 : RS S (y_i M 0 1) r n nf := hR.t 1
  have h2 : FA S M (T ++ [.inr (10, [])]) B nf := hA.app _
  have h3 : FA S (y_i M 0 1) (T ++ [.inr (10, [])]) B nf := h2.M' (fun _ _ _ => rfl)
  have h4 : OT (T ++ [.inr (10, [])]) B := hO.app (nf_1 rfl nf_0)
  have h5 := RX'.of h1 h3 h4
  exact AW.widen (by omega) (by omega) (kk _ h5)

set_option maxHeartbeats 4000000 in
set_option maxRecDepth 100000 in
theorem lw_makeU (X : ax_X p m meth c s args VV G L_law_c 7 "NumberFunctionsLaw" pl_L (some .boolean)) (hLS : ax_LS G s) (hX : va_X (G.ph 89) L xs s G.H0) (hL : L ≤ 3072) (hi : i + 6 ≤ L) (hcs : cells + 6 ≤ 601024 ∧ slots + 8700 ≤ 7293034) (hP : Th l G N_make_y N_make_c 5 [.ref 132, .int (xs (i + 1)), .int (xs (i + 2)), .int (xs (i + 3))] M_make_y M_make_c 6 9 [.ref 153, .int (xs (i + 1)), .int (xs (i + 2)), .int (xs (i + 3))] S M T 11 2) (hR : RS S M r n nf) (hA : FA S M T B nf) (hO : OT T B) (kk : ∀ h', RX' h' → AW p l e room_1 s m args below meth c VV G 7 (h') (cells + 6) (slots + 8700) Q 592 [(4, .int (nI i)), (0, .ref 89), (1, .ref 132), (2, .ref 153), (3, .ref 173)] []) : AW p l e room_1 s m args below meth c VV G 7 (x_hM S M T) cells slots Q 294 [(4, .int (nI i)), (0, .ref 89), (1, .ref 132), (2, .ref 153), (3, .ref 173)] [] := by
  obtain ⟨hT, hM⟩ := hP
  refine AW.run X L_law_d 159 5 rfl ?_
  refine AW.scr (j := i + 1) X hX hL (nI_o1 i) (by omega) (L_law_d.d 164 rfl) ?_
  refine AW.run X L_law_d 165 4 rfl ?_
  refine AW.scr (j := i + 2) X hX hL (nI_add i 2) (by omega) (L_law_d.d 169 rfl) ?_
  refine AW.run X L_law_d 170 4 rfl ?_
  refine AW.scr (j := i + 3) X hX hL (nI_add i 3) (by omega) (L_law_d.d 174 rfl) ?_
  refine AW.run X L_law_d 175 1 rfl ?_
  refine AW.callSH (As := [.ref 132, .int (xs (i + 1)), .int (xs (i + 2)), .int (xs (i + 3)), .ref 173]) X hLS (L_makeU_m S M T (xs (i + 1)) (xs (i + 2)) (xs (i + 3)) hT) ch_L_62 rfl ⟨Nat.le_of_ble_eq_true rfl, Nat.le_of_ble_eq_true rfl⟩ (Nat.le_of_ble_eq_true rfl) ⟨by rw [rm_c]; omega, by rw [rm_s]; omega⟩ (L_law_d.d 176 rfl) (fun v h' q => ?_)
  obtain ⟨rfl, rfl⟩ := q
  refine AW.run X L_law_d 177 6 rfl ?_
  refine AW.scr (j := i + 1) X hX hL (nI_o1 i) (by omega) (L_law_d.d 183 rfl) ?_
  refine AW.run X L_law_d 184 4 rfl ?_
  refine AW.scr (j := i + 2) X hX hL (nI_add i 2) (by omega) (L_law_d.d 188 rfl) ?_
  refine AW.run X L_law_d 189 4 rfl ?_
  refine AW.scr (j := i + 3) X hX hL (nI_add i 3) (by omega) (L_law_d.d 193 rfl) ?_
  have hh := hM (T ++ [.inr (11, [])])
  refine AW.callV (As := [.int (xs (i + 1)), .int (xs (i + 2)), .int (xs (i + 3))]) X hh cb_L_65 rfl rfl M_make_im M_make_se rfl ⟨Nat.le_of_ble_eq_true rfl, Nat.le_of_ble_eq_true rfl⟩ (Nat.le_of_ble_eq_true rfl) ⟨by rw [rm_c]; omega, by rw [rm_s]; omega⟩ (L_law_d.d 194 rfl) (fun v h' q => ?_)
  obtain ⟨⟨x9, rfl⟩, rfl⟩ := q
  refine AW.run X L_law_d 195 2 rfl ?_
  have hh2 := M_thrown_m (l := l) (G := G) S (y_i M 0 2) (T ++ [.inr (11, [])])
  refine AW.callV (As := []) X hh2 cb_L_51 rfl rfl M_thrown_im M_thrown_se rfl ⟨Nat.le_of_ble_eq_true rfl, Nat.le_of_ble_eq_true rfl⟩ (Nat.le_of_ble_eq_true rfl) ⟨by rw [rm_c]; omega, by rw [rm_s]; omega⟩ (L_law_d.d 197 rfl) (fun v h' q => ?_)
  obtain ⟨rfl, rfl⟩ := q
  rw [show (y_i M 0 2).1 0 = 2 from rfl]
  refine AW.run X L_law_d 198 1 rfl ?_
  refine AW.icmp_eq X (L_law_d.d 199 rfl) (fun q199 => ?_) (fun q199 => absurd rfl q199)
  refine AW.run X L_law_d 202 1 rfl ?_
  refine AW.if_ne X (L_law_d.d 203 rfl) (fun q203 => ?_) (fun q203 => absurd q203 (by decide))
  refine AW.goto X (L_law_d.d 213 rfl) ?_
  refine AW.pk [2, 3, 4, 5, 6] rfl ?_
  have h1 : RS S (y_i M 0 2) r n nf := hR.t 2
  have h2 : FA S M (T ++ [.inr (11, [])]) B nf := hA.app _
  have h3 : FA S (y_i M 0 2) (T ++ [.inr (11, [])]) B nf := h2.M' (fun _ _ _ => rfl)
  have h4 : OT (T ++ [.inr (11, [])]) B := hO.app (nf_1 rfl nf_0)
  have h5 := RX'.of h1 h3 h4
  exact AW.widen (by omega) (by omega) (kk _ h5)

set_option maxHeartbeats 4000000 in
set_option maxRecDepth 100000 in
theorem lw_inputS (X : ax_X p m meth c s args VV G L_law_c 7 "NumberFunctionsLaw" pl_L (some .boolean)) (hLS : ax_LS G s) (hX : va_X (G.ph 89) L xs s G.H0) (hL : L ≤ 3072) (hi : i + 6 ≤ L) (hcs : cells + 6 ≤ 601024 ∧ slots + 8700 ≤ 7293034) (hP : Pr l G N_input_y N_input_c 4 1 0 0 [.ref 132, .int (xs (i + 1)), .int (xs (i + 2))] M_input_y M_input_c 4 1 [.ref 153, .int (xs (i + 1)), .int (xs (i + 2))] S M T B) (kk : ∀ h', RX' h' → AW p l e room_1 s m args below meth c VV G 7 (h') (cells + 6) (slots + 8700) Q 592 [(4, .int (nI i)), (0, .ref 89), (1, .ref 132), (2, .ref 153), (3, .ref 173)] []) : AW p l e room_1 s m args below meth c VV G 7 (x_hM S M T) cells slots Q 387 [(4, .int (nI i)), (0, .ref 89), (1, .ref 132), (2, .ref 153), (3, .ref 173)] [] := by
  obtain ⟨val, MI, hN, hM⟩ := hP
  refine AW.run X L_law_d 221 5 rfl ?_
  refine AW.scr (j := i + 1) X hX hL (nI_o1 i) (by omega) (L_law_d.d 226 rfl) ?_
  refine AW.run X L_law_d 227 4 rfl ?_
  refine AW.scr (j := i + 2) X hX hL (nI_add i 2) (by omega) (L_law_d.d 231 rfl) ?_
  refine AW.run X L_law_d 232 1 rfl ?_
  refine AW.callSH (As := [.ref 132, .int (xs (i + 1)), .int (xs (i + 2)), .ref 173]) X hLS (L_inputS_m S M T (xs (i + 1)) (xs (i + 2)) B val MI hN) ch_L_70 rfl ⟨Nat.le_of_ble_eq_true rfl, Nat.le_of_ble_eq_true rfl⟩ (Nat.le_of_ble_eq_true rfl) ⟨by rw [rm_c]; omega, by rw [rm_s]; omega⟩ (L_law_d.d 233 rfl) (fun v h' q => ?_)
  obtain ⟨rfl, S2, T2, w2, rfl, hw2, hI⟩ := q
  refine AW.run X L_law_d 234 6 rfl ?_
  refine AW.scr (j := i + 1) X hX hL (nI_o1 i) (by omega) (L_law_d.d 240 rfl) ?_
  refine AW.run X L_law_d 241 4 rfl ?_
  refine AW.scr (j := i + 2) X hX hL (nI_add i 2) (by omega) (L_law_d.d 245 rfl) ?_
  refine AW.callV (As := [.int (xs (i + 1)), .int (xs (i + 2))]) X (hM S2 T2 w2 hI) cb_L_73 rfl rfl M_input_im M_input_se rfl ⟨Nat.le_of_ble_eq_true rfl, Nat.le_of_ble_eq_true rfl⟩ (Nat.le_of_ble_eq_true rfl) ⟨by rw [rm_c]; omega, by rw [rm_s]; omega⟩ (L_law_d.d 246 rfl) (fun v h' q => ?_)
  obtain ⟨rfl, M2, rfl, h0, B2, r2, n2, nf2, hR2, hA2, hT2⟩ := q
  have hlt : 0 < T2.length := by
    obtain ⟨-, ⟨w9, e9⟩, -⟩ := hT2
    have := lt_of e9
    rw [List.length_set] at this
    exact this
  refine AW.run X L_law_d 247 2 rfl ?_
  refine AW.callV (As := []) X (M_thrown_m S2 M2 (T2.set 0 (oC w2))) cb_L_51 rfl rfl M_thrown_im M_thrown_se rfl ⟨Nat.le_of_ble_eq_true rfl, Nat.le_of_ble_eq_true rfl⟩ (Nat.le_of_ble_eq_true rfl) ⟨by rw [rm_c]; omega, by rw [rm_s]; omega⟩ (L_law_d.d 249 rfl) (fun v h' q => ?_)
  obtain ⟨rfl, rfl⟩ := q
  rw [h0]
  refine AW.run X L_law_d 250 1 rfl ?_
  refine AW.icmp_eq X (L_law_d.d 251 rfl) (fun q251 => ?_) (fun q251 => absurd rfl q251)
  refine AW.run X L_law_d 254 1 rfl ?_
  refine AW.if_ne X (L_law_d.d 255 rfl) (fun q255 => absurd rfl q255) (fun q255 => ?_)
  refine AW.run X L_law_d 256 2 rfl ?_
  refine AW.lald (t := 2) (n := 1) (j := 0) X (x_hMo (List.getElem?_set_self hlt)) rfl rfl (by decide) (by decide) (L_law_d.d 258 rfl) ?_
  rw [hw2]
  refine AW.run X L_law_d 259 3 rfl ?_
  refine AW.if_eq X (L_law_d.d 262 rfl) (fun q262 => ?_) (fun q262 => absurd ((lg_cmp_eq _ _).mpr rfl) q262)
  refine AW.goto X (L_law_d.d 265 rfl) ?_
  refine AW.pk [2, 3, 4, 5, 6] rfl ?_
  exact AW.widen (by omega) (by omega) (kk _ (RX'.of hR2 hA2 hT2))

set_option maxHeartbeats 4000000 in
set_option maxRecDepth 100000 in
theorem lw_inputT (X : ax_X p m meth c s args VV G L_law_c 7 "NumberFunctionsLaw" pl_L (some .boolean)) (hLS : ax_LS G s) (hX : va_X (G.ph 89) L xs s G.H0) (hL : L ≤ 3072) (hi : i + 6 ≤ L) (hcs : cells + 6 ≤ 601024 ∧ slots + 8700 ≤ 7293034) (hP : Th l G N_input_y N_input_c 4 [.ref 132, .int (xs (i + 1)), .int (xs (i + 2))] M_input_y M_input_c 4 1 [.ref 153, .int (xs (i + 1)), .int (xs (i + 2))] S M T 10 1) (hR : RS S M r n nf) (hA : FA S M T B nf) (hO : OT T B) (kk : ∀ h', RX' h' → AW p l e room_1 s m args below meth c VV G 7 (h') (cells + 6) (slots + 8700) Q 592 [(4, .int (nI i)), (0, .ref 89), (1, .ref 132), (2, .ref 153), (3, .ref 173)] []) : AW p l e room_1 s m args below meth c VV G 7 (x_hM S M T) cells slots Q 387 [(4, .int (nI i)), (0, .ref 89), (1, .ref 132), (2, .ref 153), (3, .ref 173)] [] := by
  obtain ⟨hT, hM⟩ := hP
  refine AW.run X L_law_d 221 5 rfl ?_
  refine AW.scr (j := i + 1) X hX hL (nI_o1 i) (by omega) (L_law_d.d 226 rfl) ?_
  refine AW.run X L_law_d 227 4 rfl ?_
  refine AW.scr (j := i + 2) X hX hL (nI_add i 2) (by omega) (L_law_d.d 231 rfl) ?_
  refine AW.run X L_law_d 232 1 rfl ?_
  refine AW.callSH (As := [.ref 132, .int (xs (i + 1)), .int (xs (i + 2)), .ref 173]) X hLS (L_inputT_m S M T (xs (i + 1)) (xs (i + 2)) hT) ch_L_70 rfl ⟨Nat.le_of_ble_eq_true rfl, Nat.le_of_ble_eq_true rfl⟩ (Nat.le_of_ble_eq_true rfl) ⟨by rw [rm_c]; omega, by rw [rm_s]; omega⟩ (L_law_d.d 233 rfl) (fun v h' q => ?_)
  obtain ⟨rfl, rfl⟩ := q
  refine AW.run X L_law_d 234 6 rfl ?_
  refine AW.scr (j := i + 1) X hX hL (nI_o1 i) (by omega) (L_law_d.d 240 rfl) ?_
  refine AW.run X L_law_d 241 4 rfl ?_
  refine AW.scr (j := i + 2) X hX hL (nI_add i 2) (by omega) (L_law_d.d 245 rfl) ?_
  have hh := hM (T ++ [.inr (10, [])])
  refine AW.callV (As := [.int (xs (i + 1)), .int (xs (i + 2))]) X hh cb_L_73 rfl rfl M_input_im M_input_se rfl ⟨Nat.le_of_ble_eq_true rfl, Nat.le_of_ble_eq_true rfl⟩ (Nat.le_of_ble_eq_true rfl) ⟨by rw [rm_c]; omega, by rw [rm_s]; omega⟩ (L_law_d.d 246 rfl) (fun v h' q => ?_)
  obtain ⟨⟨x9, rfl⟩, rfl⟩ := q
  refine AW.run X L_law_d 247 2 rfl ?_
  have hh2 := M_thrown_m (l := l) (G := G) S (y_i M 0 1) (T ++ [.inr (10, [])])
  refine AW.callV (As := []) X hh2 cb_L_51 rfl rfl M_thrown_im M_thrown_se rfl ⟨Nat.le_of_ble_eq_true rfl, Nat.le_of_ble_eq_true rfl⟩ (Nat.le_of_ble_eq_true rfl) ⟨by rw [rm_c]; omega, by rw [rm_s]; omega⟩ (L_law_d.d 249 rfl) (fun v h' q => ?_)
  obtain ⟨rfl, rfl⟩ := q
  rw [show (y_i M 0 1).1 0 = 1 from rfl]
  refine AW.run X L_law_d 250 1 rfl ?_
  refine AW.icmp_eq X (L_law_d.d 251 rfl) (fun q251 => ?_) (fun q251 => absurd rfl q251)
  refine AW.run X L_law_d 254 1 rfl ?_
  refine AW.if_ne X (L_law_d.d 255 rfl) (fun q255 => ?_) (fun q255 => absurd q255 (by decide))
  refine AW.goto X (L_law_d.d 265 rfl) ?_
  refine AW.pk [2, 3, 4, 5, 6] rfl ?_
  have h1 : RS S (y_i M 0 1) r n nf := hR.t 1
  have h2 : FA S M (T ++ [.inr (10, [])]) B nf := hA.app _
  have h3 : FA S (y_i M 0 1) (T ++ [.inr (10, [])]) B nf := h2.M' (fun _ _ _ => rfl)
  have h4 : OT (T ++ [.inr (10, [])]) B := hO.app (nf_1 rfl nf_0)
  have h5 := RX'.of h1 h3 h4
  exact AW.widen (by omega) (by omega) (kk _ h5)

set_option maxHeartbeats 4000000 in
set_option maxRecDepth 100000 in
theorem lw_callS (X : ax_X p m meth c s args VV G L_law_c 7 "NumberFunctionsLaw" pl_L (some .boolean)) (hLS : ax_LS G s) (hX : va_X (G.ph 89) L xs s G.H0) (hL : L ≤ 3072) (hi : i + 6 ≤ L) (hcs : cells + 6 ≤ 601024 ∧ slots + 8700 ≤ 7293034) (hP : Pr l G N_call_y N_call_c 4 31 0 0 [.ref 132, .int (xs (i + 1))] M_call_y M_call_c 6 10 [.ref 153, .int (xs (i + 1))] S M T B) (kk : ∀ h', RX' h' → AW p l e room_1 s m args below meth c VV G 7 (h') (cells + 6) (slots + 8700) Q 592 [(4, .int (nI i)), (0, .ref 89), (1, .ref 132), (2, .ref 153), (3, .ref 173)] []) : AW p l e room_1 s m args below meth c VV G 7 (x_hM S M T) cells slots Q 455 [(4, .int (nI i)), (0, .ref 89), (1, .ref 132), (2, .ref 153), (3, .ref 173)] [] := by
  obtain ⟨val, MI, hN, hM⟩ := hP
  refine AW.run X L_law_d 266 5 rfl ?_
  refine AW.scr (j := i + 1) X hX hL (nI_o1 i) (by omega) (L_law_d.d 271 rfl) ?_
  refine AW.run X L_law_d 272 1 rfl ?_
  refine AW.callSH (As := [.ref 132, .int (xs (i + 1)), .ref 173]) X hLS (L_callS_m S M T (xs (i + 1)) B val MI hN) ch_L_74 rfl ⟨Nat.le_of_ble_eq_true rfl, Nat.le_of_ble_eq_true rfl⟩ (Nat.le_of_ble_eq_true rfl) ⟨by rw [rm_c]; omega, by rw [rm_s]; omega⟩ (L_law_d.d 273 rfl) (fun v h' q => ?_)
  obtain ⟨rfl, S2, T2, w2, rfl, hw2, hI⟩ := q
  refine AW.run X L_law_d 274 6 rfl ?_
  refine AW.scr (j := i + 1) X hX hL (nI_o1 i) (by omega) (L_law_d.d 280 rfl) ?_
  refine AW.callV (As := [.int (xs (i + 1))]) X (hM S2 T2 w2 hI) cb_L_76 rfl rfl M_call_im M_call_se rfl ⟨Nat.le_of_ble_eq_true rfl, Nat.le_of_ble_eq_true rfl⟩ (Nat.le_of_ble_eq_true rfl) ⟨by rw [rm_c]; omega, by rw [rm_s]; omega⟩ (L_law_d.d 281 rfl) (fun v h' q => ?_)
  obtain ⟨rfl, M2, rfl, h0, B2, r2, n2, nf2, hR2, hA2, hT2⟩ := q
  have hlt : 0 < T2.length := by
    obtain ⟨-, ⟨w9, e9⟩, -⟩ := hT2
    have := lt_of e9
    rw [List.length_set] at this
    exact this
  refine AW.run X L_law_d 282 2 rfl ?_
  refine AW.callV (As := []) X (M_thrown_m S2 M2 (T2.set 0 (oC w2))) cb_L_51 rfl rfl M_thrown_im M_thrown_se rfl ⟨Nat.le_of_ble_eq_true rfl, Nat.le_of_ble_eq_true rfl⟩ (Nat.le_of_ble_eq_true rfl) ⟨by rw [rm_c]; omega, by rw [rm_s]; omega⟩ (L_law_d.d 284 rfl) (fun v h' q => ?_)
  obtain ⟨rfl, rfl⟩ := q
  rw [h0]
  refine AW.run X L_law_d 285 1 rfl ?_
  refine AW.icmp_eq X (L_law_d.d 286 rfl) (fun q286 => ?_) (fun q286 => absurd rfl q286)
  refine AW.run X L_law_d 289 1 rfl ?_
  refine AW.if_ne X (L_law_d.d 290 rfl) (fun q290 => absurd rfl q290) (fun q290 => ?_)
  refine AW.run X L_law_d 291 2 rfl ?_
  refine AW.lald (t := 2) (n := 1) (j := 0) X (x_hMo (List.getElem?_set_self hlt)) rfl rfl (by decide) (by decide) (L_law_d.d 293 rfl) ?_
  rw [hw2]
  refine AW.run X L_law_d 294 3 rfl ?_
  refine AW.if_eq X (L_law_d.d 297 rfl) (fun q297 => ?_) (fun q297 => absurd ((lg_cmp_eq _ _).mpr rfl) q297)
  refine AW.goto X (L_law_d.d 300 rfl) ?_
  refine AW.pk [2, 3, 4, 5, 6] rfl ?_
  exact AW.widen (by omega) (by omega) (kk _ (RX'.of hR2 hA2 hT2))

set_option maxHeartbeats 4000000 in
set_option maxRecDepth 100000 in
theorem lw_callT (X : ax_X p m meth c s args VV G L_law_c 7 "NumberFunctionsLaw" pl_L (some .boolean)) (hLS : ax_LS G s) (hX : va_X (G.ph 89) L xs s G.H0) (hL : L ≤ 3072) (hi : i + 6 ≤ L) (hcs : cells + 6 ≤ 601024 ∧ slots + 8700 ≤ 7293034) (hP : Th l G N_call_y N_call_c 4 [.ref 132, .int (xs (i + 1))] M_call_y M_call_c 6 10 [.ref 153, .int (xs (i + 1))] S M T 12 1) (hR : RS S M r n nf) (hA : FA S M T B nf) (hO : OT T B) (kk : ∀ h', RX' h' → AW p l e room_1 s m args below meth c VV G 7 (h') (cells + 6) (slots + 8700) Q 592 [(4, .int (nI i)), (0, .ref 89), (1, .ref 132), (2, .ref 153), (3, .ref 173)] []) : AW p l e room_1 s m args below meth c VV G 7 (x_hM S M T) cells slots Q 455 [(4, .int (nI i)), (0, .ref 89), (1, .ref 132), (2, .ref 153), (3, .ref 173)] [] := by
  obtain ⟨hT, hM⟩ := hP
  refine AW.run X L_law_d 266 5 rfl ?_
  refine AW.scr (j := i + 1) X hX hL (nI_o1 i) (by omega) (L_law_d.d 271 rfl) ?_
  refine AW.run X L_law_d 272 1 rfl ?_
  refine AW.callSH (As := [.ref 132, .int (xs (i + 1)), .ref 173]) X hLS (L_callT_m S M T (xs (i + 1)) hT) ch_L_74 rfl ⟨Nat.le_of_ble_eq_true rfl, Nat.le_of_ble_eq_true rfl⟩ (Nat.le_of_ble_eq_true rfl) ⟨by rw [rm_c]; omega, by rw [rm_s]; omega⟩ (L_law_d.d 273 rfl) (fun v h' q => ?_)
  obtain ⟨rfl, rfl⟩ := q
  refine AW.run X L_law_d 274 6 rfl ?_
  refine AW.scr (j := i + 1) X hX hL (nI_o1 i) (by omega) (L_law_d.d 280 rfl) ?_
  have hh := hM (T ++ [.inr (12, [])])
  refine AW.callV (As := [.int (xs (i + 1))]) X hh cb_L_76 rfl rfl M_call_im M_call_se rfl ⟨Nat.le_of_ble_eq_true rfl, Nat.le_of_ble_eq_true rfl⟩ (Nat.le_of_ble_eq_true rfl) ⟨by rw [rm_c]; omega, by rw [rm_s]; omega⟩ (L_law_d.d 281 rfl) (fun v h' q => ?_)
  obtain ⟨⟨x9, rfl⟩, rfl⟩ := q
  refine AW.run X L_law_d 282 2 rfl ?_
  have hh2 := M_thrown_m (l := l) (G := G) S (y_i M 0 1) (T ++ [.inr (12, [])])
  refine AW.callV (As := []) X hh2 cb_L_51 rfl rfl M_thrown_im M_thrown_se rfl ⟨Nat.le_of_ble_eq_true rfl, Nat.le_of_ble_eq_true rfl⟩ (Nat.le_of_ble_eq_true rfl) ⟨by rw [rm_c]; omega, by rw [rm_s]; omega⟩ (L_law_d.d 284 rfl) (fun v h' q => ?_)
  obtain ⟨rfl, rfl⟩ := q
  rw [show (y_i M 0 1).1 0 = 1 from rfl]
  refine AW.run X L_law_d 285 1 rfl ?_
  refine AW.icmp_eq X (L_law_d.d 286 rfl) (fun q286 => ?_) (fun q286 => absurd rfl q286)
  refine AW.run X L_law_d 289 1 rfl ?_
  refine AW.if_ne X (L_law_d.d 290 rfl) (fun q290 => ?_) (fun q290 => absurd q290 (by decide))
  refine AW.goto X (L_law_d.d 300 rfl) ?_
  refine AW.pk [2, 3, 4, 5, 6] rfl ?_
  have h1 : RS S (y_i M 0 1) r n nf := hR.t 1
  have h2 : FA S M (T ++ [.inr (12, [])]) B nf := hA.app _
  have h3 : FA S (y_i M 0 1) (T ++ [.inr (12, [])]) B nf := h2.M' (fun _ _ _ => rfl)
  have h4 : OT (T ++ [.inr (12, [])]) B := hO.app (nf_1 rfl nf_0)
  have h5 := RX'.of h1 h3 h4
  exact AW.widen (by omega) (by omega) (kk _ h5)

set_option maxHeartbeats 4000000 in
set_option maxRecDepth 100000 in
theorem lw_outputS (X : ax_X p m meth c s args VV G L_law_c 7 "NumberFunctionsLaw" pl_L (some .boolean)) (hLS : ax_LS G s) (hX : va_X (G.ph 89) L xs s G.H0) (hL : L ≤ 3072) (hi : i + 6 ≤ L) (hcs : cells + 6 ≤ 601024 ∧ slots + 8700 ≤ 7293034) (hP : Pr l G N_output_y N_output_c 2 0 0 0 [.ref 132, .int (xs (i + 1))] M_output_y M_output_c 2 1 [.ref 153, .int (xs (i + 1))] S M T B) (kk : ∀ h', RX' h' → AW p l e room_1 s m args below meth c VV G 7 (h') (cells + 6) (slots + 8700) Q 592 [(4, .int (nI i)), (0, .ref 89), (1, .ref 132), (2, .ref 153), (3, .ref 173)] []) : AW p l e room_1 s m args below meth c VV G 7 (x_hM S M T) cells slots Q 511 [(4, .int (nI i)), (0, .ref 89), (1, .ref 132), (2, .ref 153), (3, .ref 173)] [] := by
  obtain ⟨val, MI, hN, hM⟩ := hP
  refine AW.run X L_law_d 301 5 rfl ?_
  refine AW.scr (j := i + 1) X hX hL (nI_o1 i) (by omega) (L_law_d.d 306 rfl) ?_
  refine AW.run X L_law_d 307 1 rfl ?_
  refine AW.callSH (As := [.ref 132, .int (xs (i + 1)), .ref 173]) X hLS (L_outputS_m S M T (xs (i + 1)) B val MI hN) ch_L_77 rfl ⟨Nat.le_of_ble_eq_true rfl, Nat.le_of_ble_eq_true rfl⟩ (Nat.le_of_ble_eq_true rfl) ⟨by rw [rm_c]; omega, by rw [rm_s]; omega⟩ (L_law_d.d 308 rfl) (fun v h' q => ?_)
  obtain ⟨rfl, S2, T2, w2, rfl, hw2, hI⟩ := q
  refine AW.run X L_law_d 309 6 rfl ?_
  refine AW.scr (j := i + 1) X hX hL (nI_o1 i) (by omega) (L_law_d.d 315 rfl) ?_
  refine AW.callV (As := [.int (xs (i + 1))]) X (hM S2 T2 w2 hI) cb_L_79 rfl rfl M_output_im M_output_se rfl ⟨Nat.le_of_ble_eq_true rfl, Nat.le_of_ble_eq_true rfl⟩ (Nat.le_of_ble_eq_true rfl) ⟨by rw [rm_c]; omega, by rw [rm_s]; omega⟩ (L_law_d.d 316 rfl) (fun v h' q => ?_)
  obtain ⟨rfl, M2, rfl, h0, B2, r2, n2, nf2, hR2, hA2, hT2⟩ := q
  have hlt : 0 < T2.length := by
    obtain ⟨-, ⟨w9, e9⟩, -⟩ := hT2
    have := lt_of e9
    rw [List.length_set] at this
    exact this
  refine AW.run X L_law_d 317 2 rfl ?_
  refine AW.callV (As := []) X (M_thrown_m S2 M2 (T2.set 0 (oC w2))) cb_L_51 rfl rfl M_thrown_im M_thrown_se rfl ⟨Nat.le_of_ble_eq_true rfl, Nat.le_of_ble_eq_true rfl⟩ (Nat.le_of_ble_eq_true rfl) ⟨by rw [rm_c]; omega, by rw [rm_s]; omega⟩ (L_law_d.d 319 rfl) (fun v h' q => ?_)
  obtain ⟨rfl, rfl⟩ := q
  rw [h0]
  refine AW.run X L_law_d 320 1 rfl ?_
  refine AW.icmp_eq X (L_law_d.d 321 rfl) (fun q321 => ?_) (fun q321 => absurd rfl q321)
  refine AW.run X L_law_d 324 1 rfl ?_
  refine AW.if_ne X (L_law_d.d 325 rfl) (fun q325 => absurd rfl q325) (fun q325 => ?_)
  refine AW.run X L_law_d 326 2 rfl ?_
  refine AW.lald (t := 2) (n := 1) (j := 0) X (x_hMo (List.getElem?_set_self hlt)) rfl rfl (by decide) (by decide) (L_law_d.d 328 rfl) ?_
  rw [hw2]
  refine AW.run X L_law_d 329 3 rfl ?_
  refine AW.if_eq X (L_law_d.d 332 rfl) (fun q332 => ?_) (fun q332 => absurd ((lg_cmp_eq _ _).mpr rfl) q332)
  refine AW.goto X (L_law_d.d 335 rfl) ?_
  refine AW.pk [2, 3, 4, 5, 6] rfl ?_
  exact AW.widen (by omega) (by omega) (kk _ (RX'.of hR2 hA2 hT2))

set_option maxHeartbeats 4000000 in
set_option maxRecDepth 100000 in
theorem lw_outputT (X : ax_X p m meth c s args VV G L_law_c 7 "NumberFunctionsLaw" pl_L (some .boolean)) (hLS : ax_LS G s) (hX : va_X (G.ph 89) L xs s G.H0) (hL : L ≤ 3072) (hi : i + 6 ≤ L) (hcs : cells + 6 ≤ 601024 ∧ slots + 8700 ≤ 7293034) (hP : Th l G N_output_y N_output_c 2 [.ref 132, .int (xs (i + 1))] M_output_y M_output_c 2 1 [.ref 153, .int (xs (i + 1))] S M T 10 1) (hR : RS S M r n nf) (hA : FA S M T B nf) (hO : OT T B) (kk : ∀ h', RX' h' → AW p l e room_1 s m args below meth c VV G 7 (h') (cells + 6) (slots + 8700) Q 592 [(4, .int (nI i)), (0, .ref 89), (1, .ref 132), (2, .ref 153), (3, .ref 173)] []) : AW p l e room_1 s m args below meth c VV G 7 (x_hM S M T) cells slots Q 511 [(4, .int (nI i)), (0, .ref 89), (1, .ref 132), (2, .ref 153), (3, .ref 173)] [] := by
  obtain ⟨hT, hM⟩ := hP
  refine AW.run X L_law_d 301 5 rfl ?_
  refine AW.scr (j := i + 1) X hX hL (nI_o1 i) (by omega) (L_law_d.d 306 rfl) ?_
  refine AW.run X L_law_d 307 1 rfl ?_
  refine AW.callSH (As := [.ref 132, .int (xs (i + 1)), .ref 173]) X hLS (L_outputT_m S M T (xs (i + 1)) hT) ch_L_77 rfl ⟨Nat.le_of_ble_eq_true rfl, Nat.le_of_ble_eq_true rfl⟩ (Nat.le_of_ble_eq_true rfl) ⟨by rw [rm_c]; omega, by rw [rm_s]; omega⟩ (L_law_d.d 308 rfl) (fun v h' q => ?_)
  obtain ⟨rfl, rfl⟩ := q
  refine AW.run X L_law_d 309 6 rfl ?_
  refine AW.scr (j := i + 1) X hX hL (nI_o1 i) (by omega) (L_law_d.d 315 rfl) ?_
  have hh := hM (T ++ [.inr (10, [])])
  refine AW.callV (As := [.int (xs (i + 1))]) X hh cb_L_79 rfl rfl M_output_im M_output_se rfl ⟨Nat.le_of_ble_eq_true rfl, Nat.le_of_ble_eq_true rfl⟩ (Nat.le_of_ble_eq_true rfl) ⟨by rw [rm_c]; omega, by rw [rm_s]; omega⟩ (L_law_d.d 316 rfl) (fun v h' q => ?_)
  obtain ⟨⟨x9, rfl⟩, rfl⟩ := q
  refine AW.run X L_law_d 317 2 rfl ?_
  have hh2 := M_thrown_m (l := l) (G := G) S (y_i M 0 1) (T ++ [.inr (10, [])])
  refine AW.callV (As := []) X hh2 cb_L_51 rfl rfl M_thrown_im M_thrown_se rfl ⟨Nat.le_of_ble_eq_true rfl, Nat.le_of_ble_eq_true rfl⟩ (Nat.le_of_ble_eq_true rfl) ⟨by rw [rm_c]; omega, by rw [rm_s]; omega⟩ (L_law_d.d 319 rfl) (fun v h' q => ?_)
  obtain ⟨rfl, rfl⟩ := q
  rw [show (y_i M 0 1).1 0 = 1 from rfl]
  refine AW.run X L_law_d 320 1 rfl ?_
  refine AW.icmp_eq X (L_law_d.d 321 rfl) (fun q321 => ?_) (fun q321 => absurd rfl q321)
  refine AW.run X L_law_d 324 1 rfl ?_
  refine AW.if_ne X (L_law_d.d 325 rfl) (fun q325 => ?_) (fun q325 => absurd q325 (by decide))
  refine AW.goto X (L_law_d.d 335 rfl) ?_
  refine AW.pk [2, 3, 4, 5, 6] rfl ?_
  have h1 : RS S (y_i M 0 1) r n nf := hR.t 1
  have h2 : FA S M (T ++ [.inr (10, [])]) B nf := hA.app _
  have h3 : FA S (y_i M 0 1) (T ++ [.inr (10, [])]) B nf := h2.M' (fun _ _ _ => rfl)
  have h4 : OT (T ++ [.inr (10, [])]) B := hO.app (nf_1 rfl nf_0)
  have h5 := RX'.of h1 h3 h4
  exact AW.widen (by omega) (by omega) (kk _ h5)
end LAWOP
