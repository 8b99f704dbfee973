/-! MAKE, both: the whole -/
theorem c_n1 {i : Nat} (h : 1 ≤ i) (h4 : i ≤ 4) : ¬ nI i < 1 := fun z => absurd ((nI_ltI (a := i) (b := 1) (by omega) (by decide)).mp z) (by omega)
theorem c_le {i k : Nat} (h : i ≤ k) (hk : k ≤ 4) : nI i ≤ nI k := (nI_leI (by omega) (by omega)).mpr h
def kL (kd : Int32) : Int32 := if kd = 0 then 3 else if kd = 2 ∨ kd = 3 then 1 else if kd = 4 then 4 else 0
def PQ (S : x_S) (M : x_M) (T : List va_E) (B : Nat → Nat) (r n nf : Nat) (kd : Int32) (i m : Nat) (S2 : x_S) (tl' : List va_E) : Prop := ((S2.1 0 = S.1 0 ∧ S2.1 1 = S.1 1) ∧ S2.1 3 = -1 ∧ S2.1 4 = -1) ∧ (∀ k, k < 4 → S2.2.1 k = S.2.1 k) ∧ S2.2.2.1 0 = S.2.2.1 0 ∧ ∃ t, (tl' = x_ms M ++ (T ++ t) ∧ NF t) ∧ (∃ ci fs, t[1]? = some (.inr (ci, fs)) ∧ 5 ≤ ci ∧ ci ≤ 8) ∧ ∀ (M' : x_M) (T0 : List va_E), MK M M' kd (nI i) (nI m) nf n r → T0.length = T.length → FK M' (T0 ++ t) (nB B nf T.length t.length) nf i m
theorem PQ.hQ {S : x_S} {M : x_M} {T : List va_E} {B : Nat → Nat} {r n nf i m : Nat} {kd : Int32} {S2 : x_S} {tl' : List va_E} (c1 : S.1 1 = nI nf) (h : PQ S M T B r n nf kd i m S2 tl') : S2.1 1 = nI nf ∧ ∃ ci fs, tl'[20 + T.length + 1]? = some (.inr (ci, fs)) ∧ 5 ≤ ci ∧ ci ≤ 8 := by
  obtain ⟨⟨⟨-, p1⟩, -⟩, -, -, t, ⟨rfl, -⟩, ⟨ci, fs, g1, g2⟩, -⟩ := h
  refine ⟨p1.trans c1, ci, fs, ?_, g2⟩
  rw [show 20 + T.length + 1 = 20 + (T.length + 1) from rfl, ms_t]
  exact (ap_k (k := 1) rfl).trans g1
theorem PQ.fin {S : x_S} {M : x_M} {T : List va_E} {B : Nat → Nat} {r n nf i m : Nat} {kd : Int32} {v : Option Value} {h' : List va_E} (h : v = some (.int (nI nf)) ∧ ∃ S2 tl', h' = x_hC (x_i (x_r (x_i S2 2 0) 0 nf (some (153 + (20 + T.length + 1)))) 1 (nI (nf + 1))) tl' ∧ PQ S M T B r n nf kd i m S2 tl') : v = some (.int (nI nf)) ∧ ∃ S' T', h' = x_hM S' M T' ∧ MG S M T B r n nf kd i m S' T' := by
  obtain ⟨e, S2, tl', rfl, ⟨⟨⟨p0, p1⟩, p3, p4⟩, q, s, t, ⟨rfl, ht⟩, -, hk⟩⟩ := h
  refine ⟨e, _, T ++ t, rfl, ⟨⟨p0, rfl, rfl⟩, p3, p4⟩, q, ⟨fun f hf => ?_, ?_⟩, t, ⟨rfl, ht⟩, hk⟩
  · show va_up (S2.2.2.1 0) nf _ f = _
    unfold va_up
    rw [if_neg (by omega), s]
  · show va_up (S2.2.2.1 0) nf _ nf = _
    unfold va_up
    rw [if_pos rfl]
    rfl
theorem MPn {l : Launch} {G : ax_G} {S : x_S} {M : x_M} {T : List va_E} {B : Nat → Nat} {r n nf i m : Nat} {kd : Int32} (hR : RS S M r n nf) (hA : FA S M T B nf) (hT : OT T B) (h24 : nf < 24) (him : (1 ≤ i ∧ i ≤ 4) ∧ 1 ≤ m ∧ m ≤ 4) (h2 : nI i ≤ kL kd) (hb : AM l VV G N_built_y N_built_c 5 (some (.object "NumberFunctions$Function")) 8 6 8700 [.ref 132, .int kd, .int (nI i), .int (nI m)] (x_hC (x_i (x_i S 3 (-1)) 4 (-1)) (x_ms M ++ T)) (fun v h' => v = some (.ref (153 + (20 + T.length + 1))) ∧ ∃ S2 tl', h' = x_hC S2 tl' ∧ PQ S M T B r n nf kd i m S2 tl')) (hM : ∀ S' tl, AM l VV G M_make_y M_make_c 6 (some .int) 9 0 0 [.ref 153, .int kd, .int (nI i), .int (nI m)] (x_hM S' M tl) (fun v h' => v = some (.int (nI nf)) ∧ ∃ M', h' = x_hM S' M' tl ∧ MK M M' kd (nI i) (nI m) nf n r)) : MP l G S M T B kd (nI i) (nI m) :=
  MPs hR hA hT h24 him ((N_makeS_m (l := l) (G := G) S (x_ms M ++ T) kd (nI i) (nI m) nf (c_n1 him.1.1 him.1.2) h2 (c_n1 him.2.1 him.2.2) (c_le (k := 4) him.2.2 (by decide)) hR.2.2.1.1 h24 (PQ S M T B r n nf kd i m) (20 + T.length + 1) (fun S' tl' h => h.hQ hR.2.2.1.1) hb).mono (fun v h' => PQ.fin)) hM
theorem MPm {l : Launch} {G : ax_G} {S : x_S} {M : x_M} {T : List va_E} {B : Nat → Nat} {r n nf i m : Nat} {kd c p : Int32} (hR : RS S M r n nf) (hA : FA S M T B nf) (hT : OT T B) (h24 : nf < 24) (him : (1 ≤ i ∧ i ≤ 4) ∧ 1 ≤ m ∧ m ≤ 4) (h2 : nI i ≤ kL kd) (hb : AM l VV G N_built_y N_built_c 5 (some (.object "NumberFunctions$Function")) 8 6 8700 [.ref 132, .int kd, .int (nI i), .int (nI m)] (x_hC (x_i (x_i S 3 (-1)) 4 (-1)) (x_ms M ++ T)) (fun v h' => v = some .null ∧ ∃ S2 tl', h' = x_hC S2 tl' ∧ ∃ T', tl' = x_ms M ++ T' ∧ MF S S2 T T' c p)) (hM : ∀ S' tl, AM l VV G M_make_y M_make_c 6 (some .int) 9 0 0 [.ref 153, .int kd, .int (nI i), .int (nI m)] (x_hM S' M tl) (fun v h' => v = some (.int (-1)) ∧ ∃ M', h' = x_hM S' M' tl ∧ ME M M' nf c p)) : MP l G S M T B kd (nI i) (nI m) :=
  MPf hR hA hT (N_makeF_m (l := l) (G := G) S (x_ms M ++ T) kd (nI i) (nI m) nf (c_n1 him.1.1 him.1.2) h2 (c_n1 him.2.1 him.2.2) (c_le (k := 4) him.2.2 (by decide)) hR.2.2.1.1 h24 (fun S2 tl' => ∃ T', tl' = x_ms M ++ T' ∧ MF S S2 T T' c p) hb) hM
theorem nf_0 : NF [] := fun _ h => by cases h
theorem nf_1 {c : va_E} {t : List va_E} (h : ax_nf c = true) (g : NF t) : NF (c :: t) := fun x hx => (List.mem_cons.mp hx).elim (fun e => by rw [e]; exact h) (g x)
theorem MF_i (S : x_S) (T : List va_E) {t : List va_E} (ht : NF t) (c p : Int32) : MF S (x_i (x_i (x_i (x_i S 3 (-1)) 4 (-1)) 3 c) 4 p) T (T ++ t) c p := by
  refine ⟨fun k hk => ?_, fun _ _ => rfl, rfl, ⟨rfl, rfl⟩, t, rfl, ht⟩
  show upd (upd (upd (upd S.1 3 (-1)) 4 (-1)) 3 c) 4 p k = _
  rw [upd_n (by omega), upd_n (by omega), upd_n (by omega), upd_n (by omega)]
theorem mT {M : x_M} {T : List va_E} {h : List va_E} {S2 : x_S} (e : h = x_hC S2 (x_ms M ++ T)) : h = x_hC S2 (x_ms M ++ (T ++ [])) := by rw [List.append_nil]; exact e
theorem mA {M : x_M} {T t : List va_E} {h : List va_E} {S2 : x_S} (e : h = x_hC S2 (x_ms M ++ T ++ t)) : h = x_hC S2 (x_ms M ++ (T ++ t)) := by rw [← List.append_assoc]; exact e
set_option maxHeartbeats 2000000 in
theorem MP_0 {l : Launch} {G : ax_G} {S : x_S} {M : x_M} {T : List va_E} {B : Nat → Nat} {r n nf : Nat} (i m : Nat) (hR : RS S M r n nf) (hA : FA S M T B nf) (hT : OT T B) (h24 : nf < 24) (hi : 1 ≤ i ∧ i ≤ 3) (hm : 1 ≤ m ∧ m ≤ 4) (hk : tp_k (nI 0) (nI i) (nI m)) : MP l G S M T B (nI 0) (nI i) (nI m) := by
  have hR0 := hR
  obtain ⟨⟨a0, a1, a2⟩, ⟨b0, b1, b2⟩, ⟨c1, c2⟩, ⟨d1, d2⟩, ⟨e1, e2⟩, -⟩ := hR0
  have him : (1 ≤ i ∧ i ≤ 4) ∧ 1 ≤ m ∧ m ≤ 4 := ⟨⟨hi.1, by omega⟩, hm⟩
  have h2 : nI i ≤ kL (nI 0) := c_le (k := 3) hi.2 (by decide)
  have hTN := N_isTold0_m (l := l) (G := G) (x_i (x_i S 3 (-1)) 4 (-1)) (x_ms M ++ T) i m n hi hm b1 b0
  have hTM := fun S' tl => M_isTold0_m (l := l) (G := G) S' (mk0 M) tl i m n hi hm b2 b0
  have hz : ∀ j, zN (M.2.1 1 j).toInt := fun j => by rw [← e1]; exact e2 j
  have hBm : ∀ j, j < r → (M.2.1 0 j).toInt8.toInt32 = M.2.1 0 j := fun j hj => by rw [← d1 j hj]; exact d2 j
  by_cases hS : tp_S2 (M.2.1 1) n i m m
  · have hS' : tp_S2 ((x_i (x_i S 3 (-1)) 4 (-1)).2.1 1) n i m m := by show tp_S2 (S.2.1 1) n i m m; rw [e1]; exact hS
    rw [dc_t hS'] at hTN
    have hS'' : tp_S2 ((mk0 M).2.1 1) n i m m := hS
    simp only [dc_t hS''] at hTM
    have ey : tp_y ((x_i (x_i S 3 (-1)) 4 (-1)).2.1 1) i m = tp_y (M.2.1 1) i m := by show tp_y (S.2.1 1) i m = _; rw [e1]
    have hbd := tp_y_bd hi hm hS
    obtain ⟨wd, hw⟩ : ∃ wd : Nat, (M.2.1 1 (5 * i)).toInt = wd := ⟨_, (Int.toNat_of_nonneg (by omega)).symm⟩
    by_cases hy : tp_y (M.2.1 1) i m ≤ r
    · have hb := N_builtS_m (l := l) (G := G) (x_i (x_i S 3 (-1)) 4 (-1)) (x_ms M ++ T) i m n b1 b0 hTN r hi hm hS' a1 a0 wd (by show S.2.1 1 (5 * i) = nI wd; rw [e1]; exact i_nat hw) (fun j _ => by_fit (d2 j)) (by rw [ey]; exact hy)
      rw [ms_l, ey] at hb
      refine MPn hR hA hT h24 him h2 (hb.mono ?_) (fun S' tl => M_makeS_m (l := l) (G := G) S' M tl i m nf n r hk c2 h24 b2 b0 a2 a0 (hTM S' tl) hBm hi hm hS hy)
      rintro v h' ⟨e, g, Bt, e3, g1, g2⟩
      refine ⟨e, _, _, mA e3, ⟨⟨rfl, rfl⟩, rfl, rfl⟩, fun _ _ => rfl, rfl, _, ⟨rfl, nf_1 rfl (nf_1 rfl (nf_1 rfl (nf_1 rfl (nf_1 rfl (nf_1 rfl nf_0)))))⟩, ⟨5, _, rfl, by decide, by decide⟩, fun M' T0 hE hl => ?_⟩
      exact FK_s hE hl h24 b0 a0 hz hi hm hS hw hy (fun j hj => (g1 j hj).trans (congrFun e1 j)) (fun j hj => (g2 j hj).trans (d1 j (by omega)))
    · have hb := N_builtY_m (l := l) (G := G) (x_i (x_i S 3 (-1)) 4 (-1)) (x_ms M ++ T) i m n b1 b0 hTN r hi hm hS' a1 a0 (by rw [ey]; omega)
      rw [ey] at hb
      refine MPm hR hA hT h24 him h2 (hb.mono ?_) (fun S' tl => M_makeY_m (l := l) (G := G) S' M tl i m nf n r hk c2 h24 b2 b0 a2 a0 (hTM S' tl) hi hm hS (by omega))
      rintro v h' ⟨e, g, e3⟩
      exact ⟨e, _, _, mA e3, _, rfl, MF_i S T (nf_1 rfl nf_0) _ _⟩
  · have hS' : ¬ tp_S2 ((x_i (x_i S 3 (-1)) 4 (-1)).2.1 1) n i m m := by show ¬ tp_S2 (S.2.1 1) n i m m; rw [e1]; exact hS
    rw [dc_f hS'] at hTN
    have hS'' : ¬ tp_S2 ((mk0 M).2.1 1) n i m m := hS
    simp only [dc_f hS''] at hTM
    refine MPm hR hA hT h24 him h2 ((N_builtT_m (l := l) (G := G) (x_i (x_i S 3 (-1)) 4 (-1)) (x_ms M ++ T) (nI 0) i m n b1 b0 hTN).mono ?_) (fun S' tl => M_makeT_m (l := l) (G := G) S' M tl (nI 0) i m nf n r hk c2 h24 b2 b0 a2 a0 (hTM S' tl))
    rintro v h' ⟨e, e3⟩
    exact ⟨e, _, _, mT e3, _, rfl, MF_i S T nf_0 _ _⟩
set_option maxHeartbeats 2000000 in
theorem MP_2 {l : Launch} {G : ax_G} {S : x_S} {M : x_M} {T : List va_E} {B : Nat → Nat} {r n nf : Nat} (m : Nat) (hR : RS S M r n nf) (hA : FA S M T B nf) (hT : OT T B) (h24 : nf < 24) (hm : 1 ≤ m ∧ m ≤ 4) (hk : tp_k (nI 2) (nI 1) (nI m)) : MP l G S M T B (nI 2) (nI 1) (nI m) := by
  have hR0 := hR
  obtain ⟨⟨a0, a1, a2⟩, ⟨b0, b1, b2⟩, ⟨c1, c2⟩, ⟨d1, d2⟩, ⟨e1, e2⟩, -⟩ := hR0
  have him : (1 ≤ 1 ∧ 1 ≤ 4) ∧ 1 ≤ m ∧ m ≤ 4 := ⟨⟨by decide, by decide⟩, hm⟩
  have h2 : nI 1 ≤ kL (nI 2) := by decide
  have hTN := N_isTold2_m (l := l) (G := G) (x_i (x_i S 3 (-1)) 4 (-1)) (x_ms M ++ T) 1 m n hm.2 b1 b0
  have hTM := fun S' tl => M_isTold2_m (l := l) (G := G) S' (mk0 M) tl 1 m n hm.2 b2 b0
  have hz : ∀ j, zN (M.2.1 1 j).toInt := fun j => by rw [← e1]; exact e2 j
  have hBm : ∀ j, j < r → (M.2.1 0 j).toInt8.toInt32 = M.2.1 0 j := fun j hj => by rw [← d1 j hj]; exact d2 j
  by_cases hS : tp_W (M.2.1 1) n m
  · have hS' : tp_W ((x_i (x_i S 3 (-1)) 4 (-1)).2.1 1) n m := by show tp_W (S.2.1 1) n m; rw [e1]; exact hS
    rw [dc_t hS'] at hTN
    have hS'' : tp_W ((mk0 M).2.1 1) n m := hS
    simp only [dc_t hS''] at hTM
    have hb := N_builtP_m (l := l) (G := G) (x_i (x_i S 3 (-1)) 4 (-1)) (x_ms M ++ T) 1 m n b1 b0 hTN
    rw [ms_l] at hb
    refine MPn hR hA hT h24 him h2 (hb.mono ?_) (fun S' tl => M_makeP_m (l := l) (G := G) S' M tl (nI 2) 1 m nf n r hk c2 h24 b2 b0 a2 a0 (hTM S' tl) hBm (by decide) (by decide))
    rintro v h' ⟨e, g, e3, g1⟩
    refine ⟨e, _, _, mA e3, ⟨⟨rfl, rfl⟩, rfl, rfl⟩, fun _ _ => rfl, rfl, _, ⟨rfl, nf_1 rfl (nf_1 rfl nf_0)⟩, ⟨6, _, rfl, by decide, by decide⟩, fun M' T0 hE hl => ?_⟩
    exact FK_p hE hl h24 b0 hz hS (fun j hj => (g1 j hj).trans (congrFun e1 j))
  · have hS' : ¬ tp_W ((x_i (x_i S 3 (-1)) 4 (-1)).2.1 1) n m := by show ¬ tp_W (S.2.1 1) n m; rw [e1]; exact hS
    rw [dc_f hS'] at hTN
    have hS'' : ¬ tp_W ((mk0 M).2.1 1) n m := hS
    simp only [dc_f hS''] at hTM
    refine MPm hR hA hT h24 him h2 ((N_builtT_m (l := l) (G := G) (x_i (x_i S 3 (-1)) 4 (-1)) (x_ms M ++ T) (nI 2) 1 m n b1 b0 hTN).mono ?_) (fun S' tl => M_makeT_m (l := l) (G := G) S' M tl (nI 2) 1 m nf n r hk c2 h24 b2 b0 a2 a0 (hTM S' tl))
    rintro v h' ⟨e, e3⟩
    exact ⟨e, _, _, mT e3, _, rfl, MF_i S T nf_0 _ _⟩
theorem tpK_u {f : Nat → Int32} {c K K' : Nat} (h : tp_K f c K) (h' : tp_K f c K') : K = K' := by
  by_cases z : tp_Z1 f c
  · have a := h.1 z
    have b := h'.1 z
    exact (nI_eq (by omega) (by omega)).mp (a.1.symm.trans b.1)
  · rw [h.2 z, h'.2 z]
theorem FA.cl {S : x_S} {M : x_M} {T : List va_E} {B : Nat → Nat} {nf : Nat} (h : FA S M T B nf) {f : Nat} (hf : f < nf) : ∃ ci fs, T[B f + 1]? = some (.inr (ci, fs)) ∧ 5 ≤ ci ∧ ci ≤ 8 := by
  obtain ⟨i, o, -, -, -, hk⟩ := h.2.2 f hf
  rcases hk with ⟨⟨q, wd, N, Bt, W, R, C, ⟨a1, -⟩, -⟩, -⟩ | ⟨⟨rfl, q, ⟨a1, -⟩, -⟩, -⟩ | ⟨⟨rfl, q, K, F, ⟨a1, -⟩, -⟩, -⟩ | ⟨⟨q, Q, P0, k0, n, Wf, A, B', C, ⟨a1, -⟩, -⟩, -⟩
  · exact ⟨5, _, a1, by decide, by decide⟩
  · exact ⟨6, _, a1, by decide, by decide⟩
  · exact ⟨7, _, a1, by decide, by decide⟩
  · exact ⟨8, _, a1, by decide, by decide⟩
set_option maxHeartbeats 2000000 in
theorem MP_3 {l : Launch} {G : ax_G} {S : x_S} {M : x_M} {T : List va_E} {B : Nat → Nat} {r n nf : Nat} (m : Nat) (hR : RS S M r n nf) (hA : FA S M T B nf) (hT : OT T B) (h24 : nf < 24) (hm : 1 ≤ m ∧ m ≤ 4) (hk : tp_k (nI 3) (nI 1) (nI m)) : MP l G S M T B (nI 3) (nI 1) (nI m) := by
  have hR0 := hR
  obtain ⟨⟨a0, a1, a2⟩, ⟨b0, b1, b2⟩, ⟨c1, c2⟩, ⟨d1, d2⟩, ⟨e1, e2⟩, -⟩ := hR0
  have him : (1 ≤ 1 ∧ 1 ≤ 4) ∧ 1 ≤ m ∧ m ≤ 4 := ⟨⟨by decide, by decide⟩, hm⟩
  have h2 : nI 1 ≤ kL (nI 3) := by decide
  have hTN := N_isTold3_m (l := l) (G := G) (x_i (x_i S 3 (-1)) 4 (-1)) (x_ms M ++ T) 1 m n nf (M.2.1 5) (M.2.1 6) hm.2 b1 b0 c1 (by omega) (FA.fF (S := x_i (x_i S 3 (-1)) 4 (-1)) (hA.S rfl))
  have hTM := fun S' tl => M_isTold3_m (l := l) (G := G) S' (mk0 M) tl 1 m n nf hm.2 b2 b0 c2 (by omega)
  have hz : ∀ j, zN (M.2.1 1 j).toInt := fun j => by rw [← e1]; exact e2 j
  have hBm : ∀ j, j < r → (M.2.1 0 j).toInt8.toInt32 = M.2.1 0 j := fun j hj => by rw [← d1 j hj]; exact d2 j
  obtain ⟨K, hK⟩ := tp_K_ex (M.2.1 1) n
  have eT : (x_i (x_i S 3 (-1)) 4 (-1)).2.1 1 = M.2.1 1 := e1
  rw [eT] at hTN
  by_cases hS : tp_Z4 (M.2.1 1) (M.2.1 5) (M.2.1 6) n nf (nI m) K (K - 1)
  · have hTN' : AM l VV G N_isTold_y N_isTold_c 4 (some .boolean) 2 0 0 [.ref 132, .int (nI 3), .int (nI 1), .int (nI m)] (x_hC (x_i (x_i S 3 (-1)) 4 (-1)) (x_ms M ++ T)) (fun v h' => v = some (.int (bI true)) ∧ h' = x_hC (x_i (x_i S 3 (-1)) 4 (-1)) (x_ms M ++ T)) := hTN.mono (by
      rintro v h' ⟨K', hK', e, e3⟩
      rw [tpK_u hK' hK, dc_t hS] at e
      exact ⟨e, e3⟩)
    have hTM' : ∀ S' tl, AM l VV G M_isTold_y M_isTold_c 4 (some .boolean) 2 0 0 [.ref 153, .int (nI 3), .int (nI 1), .int (nI m)] (x_hM S' (mk0 M) tl) (fun v h' => v = some (.int (bI true)) ∧ h' = x_hM S' (mk0 M) tl) := fun S' tl => (hTM S' tl).mono (by
      rintro v h' ⟨K', hK', e, e3⟩
      have hK'' : tp_K (M.2.1 1) n K' := hK'
      have e' : v = some (.int (bI (dc (tp_Z4 (M.2.1 1) (M.2.1 5) (M.2.1 6) n nf (nI m) K' (K' - 1))))) := e
      rw [tpK_u hK'' hK, dc_t hS] at e'
      exact ⟨e', e3⟩)
    have hS0 := hS
    obtain ⟨⟨hs1, hn2, hs2⟩, hs3⟩ := hS0
    obtain ⟨k1, k2⟩ := hK.1 hs1
    have nt : ∀ a : Nat, a < 2 ^ 31 → (nI a).toInt = a := fun a ha => by rw [iZ_n]; exact iZ_t ⟨by omega, by omega⟩
    have hP : ∀ j, j < K → ∃ (f pa ci : Nat) (fs : List Value), (x_i (x_i S 3 (-1)) 4 (-1)).2.1 1 (3 + j) = nI f ∧ f < 24 ∧ (x_i (x_i S 3 (-1)) 4 (-1)).2.2.1 0 f = some (153 + pa) ∧ (x_ms M ++ T)[pa]? = some (.inr (ci, fs)) ∧ 5 ≤ ci ∧ ci ≤ 8 := by
      intro j hj
      obtain ⟨⟨z1, z2⟩, -, -⟩ := hs2 j hj
      obtain ⟨f, hf⟩ : ∃ f : Nat, (M.2.1 1 (3 + j)).toInt = f := ⟨_, (Int.toNat_of_nonneg z1).symm⟩
      have hf' : f < nf := by omega
      obtain ⟨i', o', -, y1, -, -⟩ := hA.2.2 f hf'
      obtain ⟨ci, fs, y2, y3⟩ := hA.cl hf'
      exact ⟨f, 20 + (B f + 1), ci, fs, by rw [eT]; exact i_nat hf, by omega, y1, by rw [ms_t]; exact y2, y3⟩
    have hb := N_builtZ_m (l := l) (G := G) (x_i (x_i S 3 (-1)) 4 (-1)) (x_ms M ++ T) 1 m n b1 b0 hTN' K ⟨k2.1, k2.2, by omega⟩ (by rw [eT]; exact k1) hP
    rw [ms_l] at hb
    refine MPn hR hA hT h24 him h2 (hb.mono ?_) (fun S' tl => M_makeP_m (l := l) (G := G) S' M tl (nI 3) 1 m nf n r hk c2 h24 b2 b0 a2 a0 (hTM' S' tl) hBm (by decide) (by decide))
    rintro v h' ⟨e, g, Fp, e3, g1, g2⟩
    refine ⟨e, _, _, mA e3, ⟨⟨rfl, rfl⟩, rfl, rfl⟩, fun _ _ => rfl, rfl, _, ⟨rfl, nf_1 rfl (nf_1 rfl (nf_1 rfl nf_0))⟩, ⟨7, _, rfl, by decide, by decide⟩, fun M' T0 hE hl => ?_⟩
    exact FK_z hA hE hl h24 b0 hz k1 k2 hS (fun j hj => (g1 j hj).trans (congrFun e1 j)) (fun j hj => by
      obtain ⟨f, pa, f1, f2, f3, f4⟩ := g2 j hj
      exact ⟨f, pa, by rw [← eT]; exact f1, f2, f3, f4⟩)
  · have hTN' : AM l VV G N_isTold_y N_isTold_c 4 (some .boolean) 2 0 0 [.ref 132, .int (nI 3), .int (nI 1), .int (nI m)] (x_hC (x_i (x_i S 3 (-1)) 4 (-1)) (x_ms M ++ T)) (fun v h' => v = some (.int (bI false)) ∧ h' = x_hC (x_i (x_i S 3 (-1)) 4 (-1)) (x_ms M ++ T)) := hTN.mono (by
      rintro v h' ⟨K', hK', e, e3⟩
      rw [tpK_u hK' hK, dc_f hS] at e
      exact ⟨e, e3⟩)
    have hTM' : ∀ S' tl, AM l VV G M_isTold_y M_isTold_c 4 (some .boolean) 2 0 0 [.ref 153, .int (nI 3), .int (nI 1), .int (nI m)] (x_hM S' (mk0 M) tl) (fun v h' => v = some (.int (bI false)) ∧ h' = x_hM S' (mk0 M) tl) := fun S' tl => (hTM S' tl).mono (by
      rintro v h' ⟨K', hK', e, e3⟩
      have hK'' : tp_K (M.2.1 1) n K' := hK'
      have e' : v = some (.int (bI (dc (tp_Z4 (M.2.1 1) (M.2.1 5) (M.2.1 6) n nf (nI m) K' (K' - 1))))) := e
      rw [tpK_u hK'' hK, dc_f hS] at e'
      exact ⟨e', e3⟩)
    refine MPm hR hA hT h24 him h2 ((N_builtT_m (l := l) (G := G) (x_i (x_i S 3 (-1)) 4 (-1)) (x_ms M ++ T) (nI 3) 1 m n b1 b0 hTN').mono ?_) (fun S' tl => M_makeT_m (l := l) (G := G) S' M tl (nI 3) 1 m nf n r hk c2 h24 b2 b0 a2 a0 (hTM' S' tl))
    rintro v h' ⟨e, e3⟩
    exact ⟨e, _, _, mT e3, _, rfl, MF_i S T nf_0 _ _⟩
theorem MF_r {S S' : x_S} {T t : List va_E} {c p : Int32} {r : Nat} (ht : NF t) (h : RDr (x_i (x_i S 3 (-1)) 4 (-1)) S' r) (h3 : S'.1 3 = c) (h4 : S'.1 4 = p) : MF S S' T (T ++ t) c p := by
  obtain ⟨p1, -, p3, p4, -⟩ := h
  refine ⟨fun k hk => (p1 k (by omega)).trans ?_, fun k hk => p3 k (by omega), p4 0 (by decide), ⟨h3, h4⟩, t, rfl, ht⟩
  show upd (upd S.1 3 (-1)) 4 (-1) k = _
  rw [upd_n (by omega), upd_n (by omega)]
set_option maxHeartbeats 2000000 in
theorem MP_4 {l : Launch} {G : ax_G} {S : x_S} {M : x_M} {T : List va_E} {B : Nat → Nat} {r n nf : Nat} (i m : Nat) (hR : RS S M r n nf) (hA : FA S M T B nf) (hT : OT T B) (h24 : nf < 24) (hi : 1 ≤ i ∧ i ≤ 4) (hm : 1 ≤ m ∧ m ≤ 4) (hk : tp_k (nI 4) (nI i) (nI m)) : MP l G S M T B (nI 4) (nI i) (nI m) := by
  have hR0 := hR
  obtain ⟨⟨a0, a1, a2⟩, ⟨b0, b1, b2⟩, ⟨c1, c2⟩, ⟨d1, d2⟩, ⟨e1, e2⟩, -⟩ := hR0
  have him : (1 ≤ i ∧ i ≤ 4) ∧ 1 ≤ m ∧ m ≤ 4 := ⟨hi, hm⟩
  have h2 : nI i ≤ kL (nI 4) := c_le (k := 4) hi.2 (by decide)
  have hTN := N_isTold4_m (l := l) (G := G) (x_i (x_i S 3 (-1)) 4 (-1)) (x_ms M ++ T) i m n hi hm b1 b0
  have hTM := fun S' tl => M_isTold4_m (l := l) (G := G) S' (mk0 M) tl i m n hi hm b2 b0
  have hz : ∀ j, zN (M.2.1 1 j).toInt := fun j => by rw [← e1]; exact e2 j
  have hBm : ∀ j, j < r → (M.2.1 0 j).toInt8.toInt32 = M.2.1 0 j := fun j hj => by rw [← d1 j hj]; exact d2 j
  by_cases hS : tp_P (M.2.1 1) n (i + m) (i + m)
  · have hS' : tp_P ((x_i (x_i S 3 (-1)) 4 (-1)).2.1 1) n (i + m) (i + m) := by show tp_P (S.2.1 1) n (i + m) (i + m); rw [e1]; exact hS
    rw [dc_t hS'] at hTN
    have hS'' : tp_P ((mk0 M).2.1 1) n (i + m) (i + m) := hS
    simp only [dc_t hS''] at hTM
    have hW : ∀ sg : Nat → Nat, (∀ j, j < r → sg j = sgn (M.2.1 0 j)) → prs sg r 401 (ws sg r 0) (qR (x_i (x_i S 3 (-1)) 4 (-1))) = prs (sgS (x_i (x_i S 3 (-1)) 4 (-1))) r 401 (ws (sgS (x_i (x_i S 3 (-1)) 4 (-1))) r 0) (qR (x_i (x_i S 3 (-1)) 4 (-1))) := fun sg h => prs_w (fun j hj => (h j hj).trans (congrArg sgn (d1 j hj).symm)) _
    have hcd := prs_cd (sg := sgS (x_i (x_i S 3 (-1)) 4 (-1))) (n := r) 401 (ws (sgS (x_i (x_i S 3 (-1)) 4 (-1))) r 0) (qR (x_i (x_i S 3 (-1)) 4 (-1)))
    obtain ⟨⟨c, k0, Q⟩, hp⟩ : ∃ X, prs (sgS (x_i (x_i S 3 (-1)) 4 (-1))) r 401 (ws (sgS (x_i (x_i S 3 (-1)) 4 (-1))) r 0) (qR (x_i (x_i S 3 (-1)) 4 (-1))) = X := ⟨_, rfl⟩
    rw [hp] at hcd hW
    by_cases hc : c = -1
    · subst hc
      have hb := N_builtG_m (l := l) (G := G) (x_i (x_i S 3 (-1)) 4 (-1)) (x_ms M ++ T) i m n b1 b0 hTN r a1 a0 (fun j _ => d2 j) rfl k0 Q hp
      rw [ms_l] at hb
      refine MPn hR hA hT h24 him h2 (hb.mono ?_) (fun S' tl => M_makeG_m (l := l) (G := G) S' M tl i m nf n r hk c2 h24 b2 b0 a2 a0 (hTM S' tl) hBm (qR (x_i (x_i S 3 (-1)) 4 (-1))) Q k0 ⟨rfl, rfl⟩ hW)
      rintro v h' ⟨e, g, S', Wf, A, B', C, e3, ⟨p1, -, p3, p4, -⟩, ⟨s3, s4⟩, g1, g2⟩
      refine ⟨e, _, _, mA e3, ⟨⟨(p1 0 (by decide)).trans rfl, (p1 1 (by decide)).trans rfl⟩, s3.trans rfl, s4.trans rfl⟩, fun k hk => p3 k (by omega), p4 0 (by decide), _, ⟨rfl, nf_1 rfl (nf_1 rfl (nf_1 rfl (nf_1 rfl (nf_1 rfl (nf_1 rfl nf_0)))))⟩, ⟨8, _, rfl, by decide, by decide⟩, fun M' T0 hE hl => ?_⟩
      exact FK_g hE hl h24 b0 a0 hz hS (fun j hj => (g1 j hj).trans (congrFun e1 j)) g2 (P0 := qR (x_i (x_i S 3 (-1)) 4 (-1))) ⟨rfl, rfl⟩ hW
    · have hc2 : 3 ≤ c ∧ c ≤ 7 := hcd.resolve_left hc
      have hcz : iZ c ≠ -1 := fun z => by
        have := congrArg Int32.toInt z
        rw [iZ_t ⟨by omega, by omega⟩] at this
        have e9 : (-1 : Int32).toInt = -1 := rfl
        omega
      have hc0 : ¬ iZ c ≤ 0 := fun z => by
        have := (iZ_le (a := c) (b := 0) ⟨by omega, by omega⟩ ⟨by decide, by decide⟩).mp z
        omega
      refine MPm (c := iZ c) (p := nI k0) hR hA hT h24 him h2 ((N_builtH_m (l := l) (G := G) (x_i (x_i S 3 (-1)) 4 (-1)) (x_ms M ++ T) i m n b1 b0 hTN r a1 a0 (fun j _ => d2 j) rfl c k0 Q hp hcz).mono ?_) (fun S' tl => M_makeH_m (l := l) (G := G) S' M tl i m nf n r hk c2 h24 b2 b0 a2 a0 (hTM S' tl) hBm (qR (x_i (x_i S 3 (-1)) 4 (-1))) Q k0 c ⟨rfl, rfl⟩ hc0 hW)
      rintro v h' ⟨e, g, S', e3, p, s3, s4⟩
      exact ⟨e, _, _, mA e3, _, rfl, MF_r (nf_1 rfl nf_0) p s3 s4⟩
  · have hS' : ¬ tp_P ((x_i (x_i S 3 (-1)) 4 (-1)).2.1 1) n (i + m) (i + m) := by show ¬ tp_P (S.2.1 1) n (i + m) (i + m); rw [e1]; exact hS
    rw [dc_f hS'] at hTN
    have hS'' : ¬ tp_P ((mk0 M).2.1 1) n (i + m) (i + m) := hS
    simp only [dc_f hS''] at hTM
    refine MPm hR hA hT h24 him h2 ((N_builtT_m (l := l) (G := G) (x_i (x_i S 3 (-1)) 4 (-1)) (x_ms M ++ T) (nI 4) i m n b1 b0 hTN).mono ?_) (fun S' tl => M_makeT_m (l := l) (G := G) S' M tl (nI 4) i m nf n r hk c2 h24 b2 b0 a2 a0 (hTM S' tl))
    rintro v h' ⟨e, e3⟩
    exact ⟨e, _, _, mT e3, _, rfl, MF_i S T nf_0 _ _⟩
theorem MP_all {l : Launch} {G : ax_G} {S : x_S} {M : x_M} {T : List va_E} {B : Nat → Nat} {r n nf : Nat} {kd x y : Int32} (hR : RS S M r n nf) (hA : FA S M T B nf) (hT : OT T B) (h24 : nf < 24) (hk : tp_k kd x y) : MP l G S M T B kd x y := by
  have hk0 := hk
  obtain ⟨⟨⟨x1, x2⟩, ⟨y1, y2⟩⟩, hd⟩ := hk0
  obtain ⟨i, hi⟩ : ∃ i : Nat, x.toInt = i := ⟨_, (Int.toNat_of_nonneg (by omega)).symm⟩
  obtain ⟨m, hm⟩ : ∃ m : Nat, y.toInt = m := ⟨_, (Int.toNat_of_nonneg (by omega)).symm⟩
  obtain rfl := i_nat hi
  obtain rfl := i_nat hm
  rw [hi] at x1 x2
  rw [hm] at y1 y2
  rcases hd with ⟨rfl, h3⟩ | ⟨rfl | rfl, h1⟩ | rfl
  · exact MP_0 i m hR hA hT h24 ⟨by omega, (nI_leI (b := 3) (by omega) (by decide)).mp h3⟩ ⟨by omega, by omega⟩ hk
  · obtain rfl : i = 1 := (nI_eq (b := 1) (by omega) (by decide)).mp h1
    exact MP_2 m hR hA hT h24 ⟨by omega, by omega⟩ hk
  · obtain rfl : i = 1 := (nI_eq (b := 1) (by omega) (by decide)).mp h1
    exact MP_3 m hR hA hT h24 ⟨by omega, by omega⟩ hk
  · exact MP_4 i m hR hA hT h24 ⟨by omega, by omega⟩ ⟨by omega, by omega⟩ hk
