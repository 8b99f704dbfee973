section LAWW
variable {p : Program} {l : Launch} {e : Env} {s : State} {m : MethodId} {below : List Frame} {meth : Method} {c : Code} {G : ax_G} {L b : Nat} {xs : Nat → Int32}
theorem AW.lawret {h : List va_E} {cells slots : Nat} {lv : List (Nat × Value)} (X : ax_X p m meth c s #[Value.ref b] VV G L_law_c 7 "NumberFunctionsLaw" pl_L (some .boolean)) (hb : G.bs = s.heap.size) (hc : cells ≤ 601024) (hs : slots ≤ 7293034) : AW p l e room_1 s m #[Value.ref b] below meth c VV G 7 h cells slots (lw_Z below #[Value.ref b] s) 599 lv [.int (Int32.ofInt 1)] := by
  intro H locs ls hH hl hv T hT X0
  have X1 : Stand p l e room_1 s m #[Value.ref b] below meth c T [] 601024 7293034 := { X0 with same := X0.same.weaken (fun x hx hlt => absurd (hl x hx) (by rw [hb]; exact Nat.not_le.mpr hlt)) hc hs }
  exact lw_ret X.x X.b X.rt X.lk (L_law_d.d 356 rfl) T hT X1
theorem lw_592 {h' : List va_E} {i cells slots : Nat} {Q : State → Prop} {args : Array Value} (X : ax_X p m meth c s args VV G L_law_c 7 "NumberFunctionsLaw" pl_L (some .boolean)) (kk : AW p l e room_1 s m args below meth c VV G 7 h' cells slots Q 23 [(4, .int (nI (i + 6))), (0, .ref 89), (1, .ref 132), (2, .ref 153), (3, .ref 173)] []) : AW p l e room_1 s m args below meth c VV G 7 h' cells slots Q 592 [(4, .int (nI i)), (0, .ref 89), (1, .ref 132), (2, .ref 153), (3, .ref 173)] [] := by
  refine AW.run X L_law_d 353 1 rfl ?_
  refine AW.goto X (L_law_d.d 354 rfl) ?_
  rw [show nI i + Int32.ofInt 6 = nI (i + 6) from nI_add i 6]
  exact kk

set_option maxHeartbeats 4000000 in
set_option maxRecDepth 100000 in
theorem lw_op {h : List va_E} {i cells slots : Nat} {Q : State → Prop} {args : Array Value} (hl0 : l.stackTraces = false) (X : ax_X p m meth c s args VV G L_law_c 7 "NumberFunctionsLaw" pl_L (some .boolean)) (hLS : ax_LS G s) (hX : va_X (G.ph 89) L xs s G.H0) (hL : L ≤ 3072) (hi : i + 6 ≤ L) (hcs : cells + 6 ≤ 601024 ∧ slots + 8700 ≤ 7293034) (hx : RX' h) (x : Int32) (kk : ∀ h', RX' h' → AW p l e room_1 s m args below meth c VV G 7 h' (cells + 6) (slots + 8700) Q 592 [(4, .int (nI i)), (0, .ref 89), (1, .ref 132), (2, .ref 153), (3, .ref 173)] []) : AW p l e room_1 s m args below meth c VV G 7 h cells slots Q 40 [(4, .int (nI i)), (0, .ref 89), (1, .ref 132), (2, .ref 153), (3, .ref 173)] [.int x] := by
  rcases tk10 x with z | z | z | z | z | z | z | z | z | z | z
  · refine AW.tableOut X (L_law_d.d 24 rfl) z ?_
    exact AW.widen (Nat.le_add_right _ _) (Nat.le_add_right _ _) (kk _ hx)
  all_goals obtain ⟨t0, S, M, T, B, r, n, nf, rfl, -, hR, hA, hO⟩ := hx
  · subst z
    refine AW.tableIn X (L_law_d.d 24 rfl) (by decide) (by decide) (off := 56) (by decide) ?_
    exact lw_feed X hLS hX hL hi hcs (op_feed (xs (i + 1)) (xs (i + 2)) (xs (i + 3)) (xs (i + 4)) (xs (i + 5)) hR hA hO) kk
  · subst z
    refine AW.tableIn X (L_law_d.d 24 rfl) (by decide) (by decide) (off := 129) (by decide) ?_
    rcases op_cut (l := l) (G := G) hl0 (xs (i + 1)) hR hA hO with hP | hP
    · exact lw_cutS X hLS hX hL hi hcs hP kk
    · exact lw_cutT X hLS hX hL hi hcs hP hR hA hO kk
  · subst z
    refine AW.tableIn X (L_law_d.d 24 rfl) (by decide) (by decide) (off := 185) (by decide) ?_
    rcases op_tell (l := l) (G := G) hl0 (xs (i + 1)) hR hA hO with hP | hP | hP
    · exact lw_tellS X hLS hX hL hi hcs hP kk
    · exact lw_tellT X hLS hX hL hi hcs hP hR hA hO kk
    · exact lw_tellU X hLS hX hL hi hcs hP hR hA hO kk
  · subst z
    refine AW.tableIn X (L_law_d.d 24 rfl) (by decide) (by decide) (off := 241) (by decide) ?_
    exact lw_drop X hLS hX hL hi hcs (op_drop  hR hA hO) kk
  · subst z
    refine AW.tableIn X (L_law_d.d 24 rfl) (by decide) (by decide) (off := 254) (by decide) ?_
    rcases op_make (l := l) (G := G) hl0 (xs (i + 1)) (xs (i + 2)) (xs (i + 3)) hR hA hO with hP | hP | hP
    · exact lw_makeS X hLS hX hL hi hcs hP kk
    · exact lw_makeT X hLS hX hL hi hcs hP hR hA hO kk
    · exact lw_makeU X hLS hX hL hi hcs hP hR hA hO kk
  · subst z
    refine AW.tableIn X (L_law_d.d 24 rfl) (by decide) (by decide) (off := 334) (by decide) ?_
    exact lw_clear X hLS hX hL hi hcs (op_clear  hR hA hO) kk
  · subst z
    refine AW.tableIn X (L_law_d.d 24 rfl) (by decide) (by decide) (off := 347) (by decide) ?_
    rcases op_input (l := l) (G := G) hl0 (xs (i + 1)) (xs (i + 2)) hR hA hO with hP | hP
    · exact lw_inputS X hLS hX hL hi hcs hP kk
    · exact lw_inputT X hLS hX hL hi hcs hP hR hA hO kk
  · subst z
    refine AW.tableIn X (L_law_d.d 24 rfl) (by decide) (by decide) (off := 415) (by decide) ?_
    rcases op_call (l := l) (G := G) hl0 (xs (i + 1)) hR hA hO with hP | hP
    · exact lw_callS X hLS hX hL hi hcs hP kk
    · exact lw_callT X hLS hX hL hi hcs hP hR hA hO kk
  · subst z
    refine AW.tableIn X (L_law_d.d 24 rfl) (by decide) (by decide) (off := 471) (by decide) ?_
    rcases op_output (l := l) (G := G) hl0 (xs (i + 1)) hR hA hO with hP | hP
    · exact lw_outputS X hLS hX hL hi hcs hP kk
    · exact lw_outputT X hLS hX hL hi hcs hP hR hA hO kk
  · subst z
    refine AW.tableIn X (L_law_d.d 24 rfl) (by decide) (by decide) (off := 527) (by decide) ?_
    exact lw_fault X hLS hX hL hi hcs (op_fault (xs (i + 1)) hR hA hO) kk

set_option maxHeartbeats 4000000 in
set_option maxRecDepth 100000 in
theorem lw_loop (hl0 : l.stackTraces = false) (X : ax_X p m meth c s #[Value.ref b] VV G L_law_c 7 "NumberFunctionsLaw" pl_L (some .boolean)) (hLS : ax_LS G s) (hX : va_X (G.ph 89) L xs s G.H0) (hL : L ≤ 3072) (hb : G.bs = s.heap.size) : ∀ (t i : Nat) (h : List va_E) (cells slots : Nat), L - i < t → i ≤ L → RX' h → cells + (L - i) ≤ 601000 → slots + 1450 * (L - i) ≤ 7290000 → AW p l e room_1 s m #[Value.ref b] below meth c VV G 7 h cells slots (lw_Z below #[Value.ref b] s) 23 [(4, .int (nI i)), (0, .ref 89), (1, .ref 132), (2, .ref 153), (3, .ref 173)] [] := by
  intro t
  induction t with
  | zero => intro i h cells slots a1; exact absurd a1 (Nat.not_lt_zero _)
  | succ t ih =>
    intro i h cells slots a1 a2 hx a3 a4
    refine AW.run X L_law_d 13 2 rfl ?_
    refine AW.scrl X hX (L_law_d.d 15 rfl) ?_
    refine AW.run X L_law_d 16 2 rfl ?_
    rw [show nI L - (Int8.ofInt 6).toInt32 = iZ ((L : Int) - 6) from by rw [iZ_n, show (Int8.ofInt 6).toInt32 = iZ 6 from rfl, iZ_sub]]
    refine AW.icmp_gt X (L_law_d.d 18 rfl) (fun q18 => ?_) (fun q18 => ?_)
    · refine AW.run X L_law_d 355 1 rfl ?_
      exact AW.lawret X hb (by omega) (by omega)
    · have hi : i + 6 ≤ L := by
        rw [iZ_n i, iZ_lt ⟨by omega, by omega⟩ ⟨by omega, by omega⟩] at q18
        omega
      refine AW.run X L_law_d 19 2 rfl ?_
      refine AW.scr (j := i) X hX hL rfl (by omega) (L_law_d.d 21 rfl) ?_
      refine AW.run X L_law_d 22 2 rfl ?_
      exact lw_op hl0 X hLS hX hL hi ⟨by omega, by omega⟩ hx _ (fun h' hx' => lw_592 X (ih (i + 6) h' (cells + 6) (slots + 8700) (by omega) hi hx' (by omega) (by omega)))
theorem zN_00 : zN (0 : Int32).toInt := ⟨by decide, by decide⟩
theorem RS_00 : RS S00 M00 0 0 0 := ⟨⟨by decide, rfl, rfl⟩, ⟨by decide, rfl, rfl⟩, ⟨rfl, rfl⟩, ⟨fun j hj => absurd hj (Nat.not_lt_zero j), fun _ => rfl⟩, ⟨rfl, fun _ => zN_00⟩, ⟨rfl, fun _ => zN_00⟩, ⟨rfl, rfl⟩, fun _ _ => rfl⟩
theorem FA_00 : FA S00 M00 [oC (fun _ => 0)] (fun _ => 1) 0 := ⟨by decide, Nat.le_refl _, fun f hf => absurd hf (Nat.not_lt_zero f)⟩
theorem OT_00 : OT [oC (fun _ => 0)] (fun _ => 1) := ⟨Nat.le_refl _, ⟨_, rfl⟩, nf_1 rfl nf_0⟩
set_option maxHeartbeats 4000000 in
set_option maxRecDepth 100000 in
theorem lw_body (hl0 : l.stackTraces = false) (X : ax_X p m meth c s #[Value.ref b] VV G L_law_c 7 "NumberFunctionsLaw" pl_L (some .boolean)) (hLS : ax_LS G s) (hX : va_X (G.ph 89) L xs s G.H0) (hL : L ≤ 3072) (hb : G.bs = s.heap.size) : AW p l e room_1 s m #[Value.ref b] below meth c VV G 7 v_cst 0 0 (lw_Z below #[Value.ref b] s) 0 [(0, .ref 89)] [] := by
  refine AW.neww (ci := 0) (fs := [.null, .int 0, .null, .null, .int 0, .null, .null, .null, .null, .null, .null]) (ty := Ty_N) (K := 132) (h' := v_cst ++ [.inr (0, [.null, .int 0, .null, .null, .int 0, .null, .null, .null, .null, .null, .null])]) X rfl L_N.1 (by decide +kernel) (mt1 (List.mem_of_getElem? (i := 29) rfl)) N_N I_N (fun j hj => by
    have : j = 0 ∨ j = 1 ∨ j = 2 ∨ j = 3 ∨ j = 4 ∨ j = 5 ∨ j = 6 ∨ j = 7 ∨ j = 8 ∨ j = 9 ∨ j = 10 := by omega
    rcases this with rfl | rfl | rfl | rfl | rfl | rfl | rfl | rfl | rfl | rfl | rfl <;> rfl) (Nat.le_of_ble_eq_true rfl) (Nat.le_of_ble_eq_true rfl) (L_law_d.d 0 rfl) rfl rfl ?_
  refine AW.run X L_law_d 1 1 rfl ?_
  have hN := N_init_m (l := l) (G := G)
  refine AW.callI (As := []) X hN cb_L_36 rfl N_init_im rfl ⟨Nat.le_of_ble_eq_true rfl, Nat.le_of_ble_eq_true rfl⟩ (Nat.le_of_ble_eq_true rfl) ⟨Nat.le_of_ble_eq_true rfl, Nat.le_of_ble_eq_true rfl⟩ (L_law_d.d 2 rfl) (fun v h' q => ?_)
  obtain ⟨rfl, rfl⟩ := q
  refine AW.eq (h' := x_hC S00 []) N_end ?_
  refine AW.run X L_law_d 3 1 rfl ?_
  refine AW.neww (ci := 9) (fs := [.int 0, .int 0, .null, .int 0, .null, .null, .null, .int 0, .int 0, .int 0, .null, .null, .null, .null, .null, .null, .null, .null, .null, .null, .int 0, .null, .null, .int 0, .int 0, .int 0, .null, .null, .null, .int 0, .int 0, .int 0]) (ty := Ty_M) (K := 153) (h' := x_hC S00 [.inr (9, [.int 0, .int 0, .null, .int 0, .null, .null, .null, .int 0, .int 0, .int 0, .null, .null, .null, .null, .null, .null, .null, .null, .null, .null, .int 0, .null, .null, .int 0, .int 0, .int 0, .null, .null, .null, .int 0, .int 0, .int 0])]) X rfl L_M.1 (by decide +kernel) (mt4 (List.mem_of_getElem? (i := 199) rfl)) N_M I_M (fun j hj => by
    have : j = 0 ∨ j = 1 ∨ j = 2 ∨ j = 3 ∨ j = 4 ∨ j = 5 ∨ j = 6 ∨ j = 7 ∨ j = 8 ∨ j = 9 ∨ j = 10 ∨ j = 11 ∨ j = 12 ∨ j = 13 ∨ j = 14 ∨ j = 15 ∨ j = 16 ∨ j = 17 ∨ j = 18 ∨ j = 19 ∨ j = 20 ∨ j = 21 ∨ j = 22 ∨ j = 23 ∨ j = 24 ∨ j = 25 ∨ j = 26 ∨ j = 27 ∨ j = 28 ∨ j = 29 ∨ j = 30 ∨ j = 31 := by omega
    rcases this with rfl | rfl | rfl | rfl | rfl | rfl | rfl | rfl | rfl | rfl | rfl | rfl | rfl | rfl | rfl | rfl | rfl | rfl | rfl | rfl | rfl | rfl | rfl | rfl | rfl | rfl | rfl | rfl | rfl | rfl | rfl | rfl <;> rfl) (Nat.le_of_ble_eq_true rfl) (Nat.le_of_ble_eq_true rfl) (L_law_d.d 4 rfl) rfl rfl ?_
  refine AW.run X L_law_d 5 1 rfl ?_
  have hM := M_init_m (l := l) (G := G) S00
  refine AW.callI (As := []) X hM cb_L_39 rfl M_init_im rfl ⟨Nat.le_of_ble_eq_true rfl, Nat.le_of_ble_eq_true rfl⟩ (Nat.le_of_ble_eq_true rfl) ⟨Nat.le_of_ble_eq_true rfl, Nat.le_of_ble_eq_true rfl⟩ (L_law_d.d 6 rfl) (fun v h' q => ?_)
  obtain ⟨rfl, rfl⟩ := q
  refine AW.eq (h' := x_hM S00 M00 []) (M_end S00) ?_
  refine AW.run X L_law_d 7 2 rfl ?_
  refine AW.newb (t := 2) (N := 1) (a0 := .inr (.inl (fun _ => 0))) (atype := .long) (K := 173) (h' := x_hM S00 M00 [oC (fun _ => 0)]) X ac_long rfl (fun cA => rfl) rfl (by decide) (Nat.le_of_ble_eq_true rfl) (Nat.le_of_ble_eq_true rfl) (fun cA U hU => va_nm_long hU) (L_law_d.d 9 rfl) rfl rfl ?_
  refine AW.run X L_law_d 10 3 rfl ?_
  refine AW.pk [0, 4, 3, 2, 1] rfl ?_
  exact lw_loop hl0 X hLS hX hL hb (L + 1) 0 _ _ _ (by omega) (Nat.zero_le _) (RX'.of RS_00 FA_00 OT_00) (by omega) (by omega)
end LAWW
