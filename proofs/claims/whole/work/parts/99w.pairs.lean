set_option maxHeartbeats 4000000 in
set_option maxRecDepth 100000 in
theorem M_cutK_m {l : Launch} {G : ax_G} (S : x_S) (M : x_M) (tl : List va_E) (w : Int32) (n : Nat) (hn : n ≤ 8192) (hsz : M.1 1 = nI n) :
    AM l VV G M_cut_y M_cut_c 3 (some .int) 1 0 0 [.ref 153, .int w] (x_hM S M tl) (fun v h' => if w < 0 then v = some (.int 0) ∧ h' = x_hM S (y_i M 0 1) tl else ∃ k, (w = nI k ∧ k < 2 ^ 31) ∧ v = some (.int (nI (n - k))) ∧ h' = x_hM S (y_i (y_i M 0 0) 1 (nI (n - (n - k)))) tl) := by
  refine AM.of (pl := pl_M) (by decide) v_good fl_M_ok kl_M_ok nofun (Nat.le_of_ble_eq_true rfl) ?_
  intro p0v e0v s0v m0v args below meth c0v X
  refine AW.run X M_cut_d 0 2 rfl ?_
  have J10 : ∀ (z : Int32), z = (if w < 0 then 1 else 0) → AW p0v l e0v (ax_R 1 0 0) s0v m0v args below meth c0v VV G 3 (x_hM S M tl) 0 0 (MQ below (ax_Q VV G (fun v h' => if w < 0 then v = some (.int 0) ∧ h' = x_hM S (y_i M 0 1) tl else ∃ k, (w = nI k ∧ k < 2 ^ 31) ∧ v = some (.int (nI (n - k))) ∧ h' = x_hM S (y_i (y_i M 0 0) 1 (nI (n - (n - k)))) tl)) args s0v 0 0 (fun q => G.bs ≤ q)) 10 [(0, .ref 153), (1, .int w)] [.int z, .ref 153] := by
    intro z hz
    refine AW.callV (As := [.int z]) X (M_refused_m S M tl z) cb_M_84 rfl rfl M_refused_im M_refused_se rfl ⟨Nat.le_of_ble_eq_true rfl, Nat.le_of_ble_eq_true rfl⟩ (Nat.le_of_ble_eq_true rfl) ⟨Nat.le_of_ble_eq_true rfl, Nat.le_of_ble_eq_true rfl⟩ (M_cut_d.d 6 rfl) (fun v h' q => ?_)
    obtain ⟨rfl, rfl⟩ := q
    refine AW.if_eq X (M_cut_d.d 7 rfl) (fun q7 => ?_) (fun q7 => ?_)
    · have hw : ¬ w < 0 := fun q => by rw [if_pos q] at hz; subst hz; exact absurd q7 (by decide)
      rw [if_neg hw] at hz
      subst hz
      obtain ⟨k, hk, rfl⟩ := nI_of hw
      refine AW.run X M_cut_d 10 3 rfl ?_
      refine AW.icmp_le X (M_cut_d.d 13 rfl) (fun q13 => ?_) (fun q13 => ?_)
      · refine AW.run X M_cut_d 19 7 rfl ?_
        refine AW.mp1 X (M_cut_d.d 26 rfl) ?_
        refine AW.run X M_cut_d 27 1 rfl ?_
        exact AW.iret X (M_cut_d.d 28 rfl) (Nat.le_of_ble_eq_true rfl) (Nat.le_of_ble_eq_true rfl) (by
          rw [if_neg hw]
          have hk2 : n ≤ k := (nI_leI (by omega) hk).mp (by rw [← hsz]; exact q13)
          refine ⟨k, ⟨rfl, hk⟩, by rw [show n - k = 0 by omega]; rfl, ?_⟩
          rw [show n - (n - k) = n by omega, ← hsz]
          exact congrArg (fun z => x_hM S (y_i (y_i M 0 0) 1 z) tl) (Int32.sub_zero _))
      · refine AW.run X M_cut_d 14 4 rfl ?_
        refine AW.goto X (M_cut_d.d 18 rfl) ?_
        refine AW.run X M_cut_d 20 6 rfl ?_
        refine AW.mp1 X (M_cut_d.d 26 rfl) ?_
        refine AW.run X M_cut_d 27 1 rfl ?_
        exact AW.iret X (M_cut_d.d 28 rfl) (Nat.le_of_ble_eq_true rfl) (Nat.le_of_ble_eq_true rfl) (by
          rw [if_neg hw]
          have hk2 : ¬ n ≤ k := fun z => q13 (by show M.1 1 ≤ nI k; rw [hsz]; exact (nI_leI (by omega) hk).mpr z)
          have e1 : M.1 1 - nI k = nI (n - k) := by rw [hsz, pk_sub (by omega)]
          refine ⟨k, ⟨rfl, hk⟩, congrArg (fun z => some (Value.int z)) e1, ?_⟩
          refine congrArg (fun z => x_hM S (y_i (y_i M 0 0) 1 z) tl) ?_
          show M.1 1 - (M.1 1 - nI k) = _
          rw [e1, hsz, pk_sub (by omega)])
    · have hw : w < 0 := Classical.byContradiction fun q => by rw [if_neg q] at hz; subst hz; exact q7 (by decide)
      rw [if_pos hw] at hz
      subst hz
      refine AW.run X M_cut_d 8 1 rfl ?_
      exact AW.iret X (M_cut_d.d 9 rfl) (Nat.le_of_ble_eq_true rfl) (Nat.le_of_ble_eq_true rfl) (by rw [if_pos hw]; exact ⟨rfl, rfl⟩)
  refine AW.if_ge X (M_cut_d.d 2 rfl) (fun q2 => ?_) (fun q2 => ?_)
  · refine AW.run X M_cut_d 5 1 rfl ?_
    exact J10 _ (if_neg (k2_nlt q2)).symm
  · refine AW.run X M_cut_d 3 1 rfl ?_
    refine AW.goto X (M_cut_d.d 4 rfl) ?_
    exact J10 _ (if_pos (k2_lt q2)).symm

/-! THE OPERATIONS, both -/
def RX' (h : List va_E) : Prop := ∃ t, RX t h
def Pr (l : Launch) (G : ax_G) (yN : MethodName) (cN : ByteArray) (mlN dN mcN msN : Nat) (AsN : List Value) (yM : MethodName) (cM : ByteArray) (mlM dM : Nat) (AsM : List Value) (S : x_S) (M : x_M) (T : List va_E) (B : Nat → Nat) : Prop := ∃ (val : Int32) (MI : x_S → List va_E → Prop), AM l VV G yN cN mlN (some .int) dN mcN msN AsN (x_hM S M T) (fun v h' => v = some (.int val) ∧ ∃ S' T', h' = x_hM S' M T' ∧ OT T' B ∧ MI S' T') ∧ ∀ S' T' w, MI S' T' → AM l VV G yM cM mlM (some .int) dM 0 0 AsM (x_hM S' M (T'.set 0 (oC w))) (fun v h' => v = some (.int val) ∧ ∃ M', h' = x_hM S' M' (T'.set 0 (oC w)) ∧ M'.1 0 = 0 ∧ ∃ B r n nf, RS S' M' r n nf ∧ FA S' M' (T'.set 0 (oC w)) B nf ∧ OT (T'.set 0 (oC w)) B)
def Th (l : Launch) (G : ax_G) (yN : MethodName) (cN : ByteArray) (mlN : Nat) (AsN : List Value) (yM : MethodName) (cM : ByteArray) (mlM dM : Nat) (AsM : List Value) (S : x_S) (M : x_M) (T : List va_E) (ci : Nat) (t : Int32) : Prop := AT l VV G yN cN mlN (some .int) 6 AsN (x_hM S M T) ci ∧ ∀ tl, AM l VV G yM cM mlM (some .int) dM 0 0 AsM (x_hM S M tl) (fun v h' => (∃ x, v = some (.int x)) ∧ h' = x_hM S (y_i M 0 t) tl)
def Pd (l : Launch) (G : ax_G) (yN : MethodName) (cN : ByteArray) (mlN dN : Nat) (AsN : List Value) (yM : MethodName) (cM : ByteArray) (mlM dM : Nat) (AsM : List Value) (S : x_S) (M : x_M) (T : List va_E) : Prop := ∃ (val : Int32) (MI : x_S → Prop), AM l VV G yN cN mlN (some .int) dN 0 0 AsN (x_hM S M T) (fun v h' => v = some (.int val) ∧ ∃ S', h' = x_hM S' M T ∧ MI S') ∧ ∀ S', MI S' → AM l VV G yM cM mlM (some .int) dM 0 0 AsM (x_hM S' M T) (fun v h' => v = some (.int val) ∧ RX' h')
theorem i_nn {w : Int32} (h : ¬ w < 0) : ∃ k : Nat, w = nI k ∧ k < 2 ^ 31 := by
  have a := Int32.le_iff_toInt_le.mp (Int32.not_lt.mp h)
  have e0 : (0 : Int32).toInt = 0 := rfl
  obtain ⟨k, hk⟩ : ∃ k : Nat, w.toInt = k := ⟨_, (Int.toNat_of_nonneg (by omega)).symm⟩
  have := Int32.toInt_lt w
  exact ⟨k, i_nat hk, by omega⟩
section OPS
variable {l : Launch} {G : ax_G} {S : x_S} {M : x_M} {T : List va_E} {B : Nat → Nat} {r n nf : Nat}
theorem RX'.of (hR : RS S M r n nf) (hA : FA S M T B nf) (hT : OT T B) : RX' (x_hM S M T) := ⟨_, S, M, T, B, r, n, nf, rfl, rfl, hR, hA, hT⟩
theorem op_cut (hl0 : l.stackTraces = false) (w : Int32) (hR : RS S M r n nf) (hA : FA S M T B nf) (hT : OT T B) : Pr l G N_cut_y N_cut_c 3 1 0 0 [.ref 132, .int w] M_cut_y M_cut_c 3 1 [.ref 153, .int w] S M T B ∨ Th l G N_cut_y N_cut_c 3 [.ref 132, .int w] M_cut_y M_cut_c 3 1 [.ref 153, .int w] S M T 10 1 := by
  have hR0 := hR
  obtain ⟨⟨a0, a1, a2⟩, -⟩ := hR0
  by_cases hw : w < 0
  · refine Or.inr ⟨N_cutT_m hl0 S (x_ms M ++ T) w hw, fun tl => (M_cutK_m (l := l) (G := G) S M tl w r a0 a2).mono (fun v h' q => ?_)⟩
    rw [if_pos hw] at q
    exact ⟨⟨_, q.1⟩, q.2⟩
  · obtain ⟨k, rfl, hk⟩ := i_nn hw
    refine Or.inl ⟨nI (r - k), fun S' T' => S' = x_i S 0 (nI (r - (r - k))) ∧ T' = T, (N_cut_m (l := l) (G := G) S (x_ms M ++ T) k r hk a0 a1).mono (fun v h' q => ⟨q.1, _, T, q.2, hT, rfl, rfl⟩), ?_⟩
    rintro S' T' wo ⟨rfl, rfl⟩
    refine (M_cutK_m (l := l) (G := G) (x_i S 0 (nI (r - (r - k)))) M (T'.set 0 (oC wo)) (nI k) r a0 a2).mono (fun v h' q => ?_)
    rw [if_neg hw] at q
    obtain ⟨k', ⟨e, hk'⟩, e1, e2⟩ := q
    obtain rfl : k = k' := (nI_eq hk hk').mp e
    exact ⟨e1, _, e2, rfl, B, _, n, nf, hR.cut (by omega), ((hA.out hT.1 _).S rfl).M' (fun _ _ _ => rfl), hT.set wo⟩
theorem op_tell (hl0 : l.stackTraces = false) (w : Int32) (hR : RS S M r n nf) (hA : FA S M T B nf) (hT : OT T B) : Pr l G N_tell_y N_tell_c 2 1 0 0 [.ref 132, .int w] M_tell_y M_tell_c 2 1 [.ref 153, .int w] S M T B ∨ Th l G N_tell_y N_tell_c 2 [.ref 132, .int w] M_tell_y M_tell_c 2 1 [.ref 153, .int w] S M T 10 1 ∨ Th l G N_tell_y N_tell_c 2 [.ref 132, .int w] M_tell_y M_tell_c 2 1 [.ref 153, .int w] S M T 11 2 := by
  have hR0 := hR
  obtain ⟨-, ⟨b0, b1, b2⟩, -⟩ := hR0
  by_cases hw : zN w.toInt
  · by_cases h96 : n = 96
    · subst h96
      refine Or.inr (Or.inr ⟨N_tellU_m hl0 S (x_ms M ++ T) w hw b1, fun tl => (M_tell_m (l := l) (G := G) S M tl w 96 b0 b2).mono (fun v h' q => ?_)⟩)
      rw [if_neg (fun z => z hw), if_pos rfl] at q
      exact ⟨⟨_, q.1⟩, q.2⟩
    · refine Or.inl ⟨nI (n + 1), fun S' T' => S' = x_i (x_a S 1 n w) 2 (nI (n + 1)) ∧ T' = T, (N_tell_m (l := l) (G := G) S (x_ms M ++ T) w n (by omega) b1 hw).mono (fun v h' q => ⟨q.1, _, T, q.2, hT, rfl, rfl⟩), ?_⟩
      rintro S' T' wo ⟨rfl, rfl⟩
      refine (M_tell_m (l := l) (G := G) (x_i (x_a S 1 n w) 2 (nI (n + 1))) M (T'.set 0 (oC wo)) w n b0 b2).mono (fun v h' q => ?_)
      rw [if_neg (fun z => z hw), if_neg h96] at q
      exact ⟨q.1, _, q.2, rfl, B, r, n + 1, nf, hR.tell (by omega) hw, ((hA.out hT.1 _).S rfl).M' (fun k h4 h10 => (y_an (y_i M 0 0) n w (by omega)).trans rfl), hT.set wo⟩
  · refine Or.inr (Or.inl ⟨N_tellT_m hl0 S (x_ms M ++ T) w hw, fun tl => (M_tell_m (l := l) (G := G) S M tl w n b0 b2).mono (fun v h' q => ?_)⟩)
    rw [if_pos (show ¬ (-1073741824 ≤ w.toInt ∧ w.toInt ≤ 1073741824) from hw)] at q
    exact ⟨⟨_, q.1⟩, q.2⟩
theorem op_make (hl0 : l.stackTraces = false) (kd x y : Int32) (hR : RS S M r n nf) (hA : FA S M T B nf) (hT : OT T B) : Pr l G N_make_y N_make_c 5 9 6 8700 [.ref 132, .int kd, .int x, .int y] M_make_y M_make_c 6 9 [.ref 153, .int kd, .int x, .int y] S M T B ∨ Th l G N_make_y N_make_c 5 [.ref 132, .int kd, .int x, .int y] M_make_y M_make_c 6 9 [.ref 153, .int kd, .int x, .int y] S M T 10 1 ∨ Th l G N_make_y N_make_c 5 [.ref 132, .int kd, .int x, .int y] M_make_y M_make_c 6 9 [.ref 153, .int kd, .int x, .int y] S M T 11 2 := by
  have hR0 := hR
  obtain ⟨-, -, ⟨c1, c2⟩, -⟩ := hR0
  by_cases hk : tp_k kd x y
  · by_cases h24 : nf < 24
    · exact Or.inl (MP_all hR hA hT h24 hk)
    · obtain rfl : nf = 24 := by have := hA.1; omega
      have hk0 := hk
      obtain ⟨⟨⟨x1, x2⟩, ⟨y1, y2⟩⟩, hd⟩ := hk0
      obtain ⟨i, hi⟩ : ∃ i : Nat, x.toInt = i := ⟨_, (Int.toNat_of_nonneg (by omega)).symm⟩
      obtain ⟨m, hm⟩ : ∃ m : Nat, y.toInt = m := ⟨_, (Int.toNat_of_nonneg (by omega)).symm⟩
      obtain rfl := i_nat hi
      obtain rfl := i_nat hm
      rw [hi] at x1 x2
      rw [hm] at y1 y2
      have h2 : nI i ≤ kL kd := by
        rcases hd with ⟨rfl, h3⟩ | ⟨rfl | rfl, h1⟩ | rfl
        · exact h3
        · rw [h1]; decide
        · rw [h1]; decide
        · exact c_le (k := 4) (by omega) (by decide)
      refine Or.inr (Or.inr ⟨N_makeU_m hl0 S (x_ms M ++ T) kd (nI i) (nI m) (c_n1 (by omega) (by omega)) h2 (c_n1 (by omega) (by omega)) (c_le (k := 4) (by omega) (by decide)) c1, fun tl => (M_makeQ_m (l := l) (G := G) S M tl kd i m 24 hk c2 rfl).mono (fun v h' q => ⟨⟨_, q.1⟩, q.2⟩)⟩)
  · exact Or.inr (Or.inl ⟨N_makeT_m hl0 S (x_ms M ++ T) kd x y hk, fun tl => (M_makeR_m (l := l) (G := G) S M tl kd x y hk).mono (fun v h' q => ⟨⟨_, q.1⟩, q.2⟩)⟩)
theorem op_input (hl0 : l.stackTraces = false) (x w : Int32) (hR : RS S M r n nf) (hA : FA S M T B nf) (hT : OT T B) : Pr l G N_input_y N_input_c 4 1 0 0 [.ref 132, .int x, .int w] M_input_y M_input_c 4 1 [.ref 153, .int x, .int w] S M T B ∨ Th l G N_input_y N_input_c 4 [.ref 132, .int x, .int w] M_input_y M_input_c 4 1 [.ref 153, .int x, .int w] S M T 10 1 := by
  have hR0 := hR
  obtain ⟨-, -, -, -, -, ⟨f1, f2⟩, -⟩ := hR0
  by_cases hk : (0 ≤ x.toInt ∧ x.toInt ≤ 3) ∧ zN w.toInt
  · obtain ⟨j, hj⟩ : ∃ j : Nat, x.toInt = j := ⟨_, (Int.toNat_of_nonneg hk.1.1).symm⟩
    obtain rfl := i_nat hj
    have hj4 : j < 4 := by have := hk.1.2; omega
    refine Or.inl ⟨S.2.1 2 j, fun S' T' => S' = x_a S 2 j w ∧ T' = T, (N_input_m (l := l) (G := G) S (x_ms M ++ T) w j hj4 hk.2).mono (fun v h' q => ⟨q.1, _, T, q.2, hT, rfl, rfl⟩), ?_⟩
    rintro S' T' wo ⟨rfl, rfl⟩
    refine (M_input_m (l := l) (G := G) (x_a S 2 j w) M (T'.set 0 (oC wo)) w (nI j)).mono (fun v h' q => ?_)
    rw [if_pos (show (0 ≤ (nI j).toInt ∧ (nI j).toInt ≤ 3) ∧ -1073741824 ≤ w.toInt ∧ w.toInt ≤ 1073741824 from hk), nI_clamp (by omega)] at q
    exact ⟨by rw [f1]; exact q.1, _, q.2, rfl, B, r, n, nf, hR.input j hk.2, ((hA.out hT.1 _).S rfl).M' (fun k h4 h10 => (y_an (y_i M 0 0) j w (by omega)).trans rfl), hT.set wo⟩
  · refine Or.inr ⟨N_inputT_m hl0 S (x_ms M ++ T) x w hk, fun tl => (M_input_m (l := l) (G := G) S M tl w x).mono (fun v h' q => ?_)⟩
    rw [if_neg (show ¬ ((0 ≤ x.toInt ∧ x.toInt ≤ 3) ∧ -1073741824 ≤ w.toInt ∧ w.toInt ≤ 1073741824) from hk)] at q
    exact ⟨⟨_, q.1⟩, q.2⟩
theorem op_output (hl0 : l.stackTraces = false) (x : Int32) (hR : RS S M r n nf) (hA : FA S M T B nf) (hT : OT T B) : Pr l G N_output_y N_output_c 2 0 0 0 [.ref 132, .int x] M_output_y M_output_c 2 1 [.ref 153, .int x] S M T B ∨ Th l G N_output_y N_output_c 2 [.ref 132, .int x] M_output_y M_output_c 2 1 [.ref 153, .int x] S M T 10 1 := by
  have hR0 := hR
  obtain ⟨-, -, -, -, -, -, -, o1⟩ := hR0
  by_cases hk : 0 ≤ x.toInt ∧ x.toInt ≤ 3
  · obtain ⟨j, hj⟩ : ∃ j : Nat, x.toInt = j := ⟨_, (Int.toNat_of_nonneg hk.1).symm⟩
    obtain rfl := i_nat hj
    have hj4 : j < 4 := by have := hk.2; omega
    refine Or.inl ⟨S.2.1 3 j, fun S' T' => S' = S ∧ T' = T, (N_output_m (l := l) (G := G) S (x_ms M ++ T) j hj4).mono (fun v h' q => ⟨q.1, _, T, q.2, hT, rfl, rfl⟩), ?_⟩
    rintro S' T' wo ⟨rfl, rfl⟩
    refine (M_output_m (l := l) (G := G) S' M (T'.set 0 (oC wo)) (nI j)).mono (fun v h' q => ?_)
    rw [if_pos hk, nI_clamp (by omega)] at q
    exact ⟨by rw [o1 j hj4]; exact q.1, _, q.2, rfl, B, r, n, nf, hR.t 0, (hA.out hT.1 _).M' (fun _ _ _ => rfl), hT.set wo⟩
  · refine Or.inr ⟨N_outputT_m hl0 S (x_ms M ++ T) x hk, fun tl => (M_output_m (l := l) (G := G) S M tl x).mono (fun v h' q => ?_)⟩
    rw [if_neg hk] at q
    exact ⟨⟨_, q.1⟩, q.2⟩
theorem op_call (hl0 : l.stackTraces = false) (w : Int32) (hR : RS S M r n nf) (hA : FA S M T B nf) (hT : OT T B) : Pr l G N_call_y N_call_c 4 31 0 0 [.ref 132, .int w] M_call_y M_call_c 6 10 [.ref 153, .int w] S M T B ∨ Th l G N_call_y N_call_c 4 [.ref 132, .int w] M_call_y M_call_c 6 10 [.ref 153, .int w] S M T 12 1 := by
  have hR0 := hR
  obtain ⟨-, -, ⟨c1, c2⟩, -, -, ⟨f1, f2⟩, -⟩ := hR0
  have h24 := hA.1
  by_cases hk : 0 ≤ w.toInt ∧ w.toInt ≤ (nf : Int) - 1
  · obtain ⟨f, hf⟩ : ∃ f : Nat, w.toInt = f := ⟨_, (Int.toNat_of_nonneg hk.1).symm⟩
    obtain rfl := i_nat hf
    have hf' : f < nf := by have := hk.2; omega
    have hI : ∀ k, k < 4 → zN (S.2.1 2 k).toInt ∧ S.2.1 2 k = iZ (S.2.1 2 k).toInt ∧ M.2.1 2 k = iZ (S.2.1 2 k).toInt := fun k _ => ⟨f2 k, iZ_of _, by rw [← f1]; exact iZ_of _⟩
    obtain ⟨o, rv, ho, h6, hr, hN⟩ := N_call_m (l := l) (G := G) f (fun k => (S.2.1 2 k).toInt) hA hf' c1 hI
    refine Or.inl ⟨if rv.1 = -1 then nI o else -1, fun S' T' => FA S' M T' B nf ∧ OD S S' o rv ∧ OT T' B, hN.mono (fun v h' q => ?_), ?_⟩
    · obtain ⟨S', T', e1, e2, e3, e4, e5⟩ := q
      exact ⟨e5, S', T', e1, hT.ts e3, e2, e4, hT.ts e3⟩
    · rintro S' T' wo ⟨g1, g2, g3⟩
      refine (M_call_m (l := l) (G := G) S' M (T'.set 0 (oC wo)) f nf o (fun k => (S.2.1 2 k).toInt) rv h24 c2 hf' h6 ho.2 hr (fun k hk => ⟨(hI k hk).1, (hI k hk).2.2⟩)).mono (fun v h' q => ?_)
      obtain ⟨M', e1, e2, e3⟩ := q
      exact ⟨e3, M', e1, e2.1.1, B, r, n, nf, hR.call g2 e2, (g1.out g3.1 _).M' (fun k h4 h10 => e2.1.2.2 k h10 (by omega)), g3.set wo⟩
  · exact Or.inr ⟨N_callT_m hl0 S (x_ms M ++ T) w nf h24 c1 hk, fun tl => (M_callR_m (l := l) (G := G) S M tl w nf h24 c2 hk).mono (fun v h' q => ⟨⟨_, q.1⟩, q.2⟩)⟩
theorem op_feed (a b c0 d e0 : Int32) (hR : RS S M r n nf) (hA : FA S M T B nf) (hT : OT T B) : Pd l G N_feed_y N_feed_c 6 1 [.ref 132, .int a, .int b, .int c0, .int d, .int e0] M_feed_y M_feed_c 8 0 [.ref 153, .int a, .int b, .int c0, .int d, .int e0] S M T := by
  have hR0 := hR
  obtain ⟨⟨a0, a1, a2⟩, -⟩ := hR0
  have hN := N_feed_m (l := l) (G := G) S (x_ms M ++ T) a b c0 d e0 r a1 a0
  by_cases h8 : 8192 < r + 20
  · refine ⟨-1, fun S' => S' = S, hN.mono (fun v h' q => ?_), ?_⟩
    · rw [if_pos h8] at q
      exact ⟨q.1, S, q.2, rfl⟩
    · rintro S' rfl
      refine (M_feed_m (l := l) (G := G) S' M T a b c0 d e0 r a2 a0).mono (fun v h' q => ?_)
      rw [if_pos h8] at q
      exact ⟨q.1, by rw [q.2]; exact RX'.of (hR.t 0) (hA.M' (fun _ _ _ => rfl)) hT⟩
  · refine ⟨nI (r + 20), fun S' => ∃ f, S' = x_A (x_i S 0 (nI (r + 20))) 0 f ∧ (∀ j, ¬ (r ≤ j ∧ j < r + 20) → f j = S.2.1 0 j) ∧ ∀ i, i < 20 → f (r + i) = f_b (f_w a b c0 d e0 i) (i % 4), hN.mono (fun v h' q => ?_), ?_⟩
    · rw [if_neg h8] at q
      obtain ⟨f, e1, e2, e3, e4⟩ := q
      exact ⟨e1, _, e2, f, rfl, e3, e4⟩
    · rintro S' ⟨f, rfl, g1, g2⟩
      refine (M_feed_m (l := l) (G := G) _ M T a b c0 d e0 r a2 a0).mono (fun v h' q => ?_)
      rw [if_neg h8] at q
      obtain ⟨g, e1, e2, e3, e4⟩ := q
      exact ⟨e1, by rw [e2]; exact RX'.of (hR.feed (by omega) g1 g2 e3 e4) ((hA.S rfl).M' (fun k h4 h10 => by show va_up _ 0 g k = _; unfold va_up; rw [if_neg (by omega)]; rfl)) hT⟩
theorem op_drop (hR : RS S M r n nf) (hA : FA S M T B nf) (hT : OT T B) : Pd l G N_drop_y N_drop_c 2 0 [.ref 132] M_drop_y M_drop_c 2 0 [.ref 153] S M T := by
  have hR0 := hR
  obtain ⟨-, ⟨b0, b1, b2⟩, -⟩ := hR0
  refine ⟨S.1 2, fun S' => S' = x_i S 2 0, (N_drop_m (l := l) (G := G) S (x_ms M ++ T)).mono (fun v h' q => ⟨q.1, _, q.2, rfl⟩), ?_⟩
  rintro S' rfl
  exact (M_drop_m (l := l) (G := G) (x_i S 2 0) M T).mono (fun v h' q => ⟨by rw [b1, ← b2]; exact q.1, by rw [q.2]; exact RX'.of hR.drop ((hA.S rfl).M' (fun _ _ _ => rfl)) hT⟩)
theorem op_clear (hR : RS S M r n nf) (hA : FA S M T B nf) (hT : OT T B) : Pd l G N_clear_y N_clear_c 3 0 [.ref 132] M_clear_y M_clear_c 2 0 [.ref 153] S M T := by
  have hR0 := hR
  obtain ⟨-, -, ⟨c1, c2⟩, -⟩ := hR0
  refine ⟨S.1 1, fun S' => ∃ f, S' = x_i (x_R S 0 f) 1 0, (N_clear_m (l := l) (G := G) S (x_ms M ++ T)).mono (fun v h' q => ?_), ?_⟩
  · obtain ⟨e1, f, e2⟩ := q
    exact ⟨e1, _, e2, f, rfl⟩
  · rintro S' ⟨f, rfl⟩
    refine (M_clear_m (l := l) (G := G) _ M T).mono (fun v h' q => ⟨by rw [c1, ← c2]; exact q.1, ?_⟩)
    rw [q.2]
    have h0 := hA.mono (f := 0) (g := nf) (Nat.zero_le _) (Nat.le_refl _)
    exact RX'.of (B := B) (hR.clear f) ⟨by omega, by have := hA.2.1; omega, fun f hf => absurd hf (Nat.not_lt_zero f)⟩ hT
theorem op_fault (w : Int32) (hR : RS S M r n nf) (hA : FA S M T B nf) (hT : OT T B) : Pd l G N_fault_y N_fault_c 2 0 [.ref 132, .int w] M_fault_y M_fault_c 2 0 [.ref 153, .int w] S M T := by
  have hR0 := hR
  obtain ⟨-, -, -, -, -, -, ⟨g1, g2⟩, -⟩ := hR0
  refine ⟨if w = 0 then S.1 3 else if w = 1 then S.1 4 else -1, fun S' => S' = S, (N_fault_m (l := l) (G := G) S (x_ms M ++ T) w).mono (fun v h' q => ⟨q.1, _, q.2, rfl⟩), ?_⟩
  rintro S' rfl
  exact (M_fault_m (l := l) (G := G) S' M T w).mono (fun v h' q => ⟨by rw [g1, g2]; exact q.1, by rw [q.2]; exact RX'.of (hR.t 0) (hA.M' (fun _ _ _ => rfl)) hT⟩)
end OPS
