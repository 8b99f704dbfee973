/-! MAKE, both, kind by kind -/
theorem by_fit {x : Int32} (h : x.toInt8.toInt32 = x) : fits .byte (.int x) = true := by
  rw [← h]
  show (decide ((-128 : Int32) ≤ x.toInt8.toInt32) && decide (x.toInt8.toInt32 ≤ (127 : Int32))) = true
  rw [Bool.and_eq_true, decide_eq_true_iff, decide_eq_true_iff, Int32.le_iff_toInt_le, Int32.le_iff_toInt_le, Int8.toInt_toInt32]
  have a := Int8.le_toInt x.toInt8
  have b := Int8.toInt_lt x.toInt8
  have e1 : (-128 : Int32).toInt = -128 := rfl
  have e2 : (127 : Int32).toInt = 127 := rfl
  rw [e1, e2]
  omega
def tq (f : Nat → Int32) : Nat → Int := fun j => (f j).toInt
theorem FQ.mk {M M' : x_M} {kd x y : Int32} {nf n r : Nat} (hE : MK M M' kd x y nf n r) (h24 : nf < 24) (hn : n ≤ 96) (hz : ∀ j, zN (M.2.1 1 j).toInt) : FQ M' nf (tq (M.2.1 1)) n := ⟨h24, hn, fun k hk => ⟨(hE.2.2.2.2.1.1 k hk).trans (iZ_of _), hz k⟩⟩
theorem ap_k {T0 t : List va_E} {b k : Nat} (e : T0.length = b) : (T0 ++ t)[b + k]? = t[k]? := by
  subst e
  rw [List.getElem?_append_right (Nat.le_add_right _ _), Nat.add_sub_cancel_left]
theorem DQ.mk {T0 t : List va_E} {b n : Nat} {g f : Nat → Int32} (e : T0.length = b) (hn : n ≤ 96) (hg : ∀ j, j < n → g j = f j) (hz : ∀ j, zN (f j).toInt) : DQ (T0 ++ .inl (0, n, .inl g) :: t) b (tq f) n := ⟨hn, g, ap_k (k := 0) e, fun k hk => ⟨(hg k hk).trans (iZ_of _), hz k⟩⟩
theorem tp_le {f : Nat → Int32} {a : Nat} (h : tp_p f a) : tq f a ≤ tq f (a + 1) := Int32.le_iff_toInt_le.mp h
theorem tpn_z (f : Nat → Int32) (o : Nat) : ∀ k, tp_n f o k = zsz (tq f) k * o := by
  intro k
  induction k with
  | zero => show (o : Int) = 1 * o; rw [Int.one_mul]
  | succ k ih =>
    show tp_n f o k * (f (5 * k + 2)).toInt = zsz (tq f) k * (f (5 * k + 2)).toInt * o
    rw [ih, Int.mul_right_comm]
theorem FK_s {M M' : x_M} {T0 : List va_E} {B : Nat → Nat} {b nf n r i m wd : Nat} {g Bt : Nat → Int32} (hE : MK M M' (nI 0) (nI i) (nI m) nf n r) (hl : T0.length = b) (h24 : nf < 24) (hn : n ≤ 96) (hr : r ≤ 8192) (hz : ∀ j, zN (M.2.1 1 j).toInt) (hi : 1 ≤ i ∧ i ≤ 3) (hm : 1 ≤ m ∧ m ≤ 4) (hS : tp_S2 (M.2.1 1) n i m m) (hw : (M.2.1 1 (5 * i)).toInt = wd) (hy : tp_y (M.2.1 1) i m ≤ r) (hg : ∀ j, j < n → g j = M.2.1 1 j) (hB : ∀ j, j < (tp_y (M.2.1 1) i m).toNat → Bt j = M.2.1 0 j) :
    FK M' (T0 ++ [.inl (0, n, .inl g), sOb (153 + (20 + (b + 2))) (20 + (b + 3)) (153 + (20 + b)) i m wd, .inl (1, (tp_y (M.2.1 1) i m).toNat, .inl Bt), .inl (0, 3, .inl (fun _ => 0)), .inl (0, 3, .inl (fun _ => 0)), .inl (2, 8, .inr (.inl (fun _ => 0)))]) (nB B nf b 6) nf i m := by
  have hq := FQ.mk hE h24 hn hz
  have hbd := tp_y_bd hi hm hS
  obtain ⟨⟨hn2, hs1⟩, hs2, hs3⟩ := hS
  rw [tpn_z, hw] at hbd
  have hy2 : tp_y (M.2.1 1) i m = (zsz (tq (M.2.1 1)) i * m * wd + 7) / 8 := by
    unfold tp_y
    rw [tpn_z, hw]
  have h8 : zsz (tq (M.2.1 1)) i * m * wd ≤ ((8 * (tp_y (M.2.1 1) i m).toNat : Nat) : Int) := by
    rw [hy2] at hy ⊢
    generalize zsz (tq (M.2.1 1)) i * m * wd = X at *
    omega
  have hN : (tp_y (M.2.1 1) i m).toNat ≤ 8192 := by omega
  have h16 : zsz (tq (M.2.1 1)) i * m * wd ≤ 65536 := by omega
  unfold FK
  rw [nB_e, nB_s]
  refine Or.inl ⟨⟨tq (M.2.1 1), wd, (tp_y (M.2.1 1) i m).toNat, Bt, fun _ => 0, fun _ => 0, fun _ => 0, ⟨ap_k (k := 1) hl, by rw [← hn2]; exact DQ.mk hl hn hg hz, ap_k (k := 2) hl⟩, ⟨ap_k (k := 3) hl, ap_k (k := 4) hl, ap_k (k := 5) hl⟩, ⟨⟨hi, hm, by omega, fun k hk => (hs1 k hk).2, h16⟩, hw, fun k hk => tp_le (hs1 k hk).1, fun k hk => tp_le (hs3 k hk), hN, h8⟩, by rw [hE.2.2.2.1.1, upd_s]; rfl, by rw [← hn2]; exact hq, fun j hj => ?_⟩, Nat.le_refl _⟩
  rw [hE.2.2.2.2.2.1 j (by omega)]
  exact (hB j hj).symm
theorem FK_p {M M' : x_M} {T0 : List va_E} {B : Nat → Nat} {b nf n r m : Nat} {g : Nat → Int32} (hE : MK M M' (nI 2) (nI 1) (nI m) nf n r) (hl : T0.length = b) (h24 : nf < 24) (hn : n ≤ 96) (hz : ∀ j, zN (M.2.1 1 j).toInt) (hS : tp_W (M.2.1 1) n m) (hg : ∀ j, j < n → g j = M.2.1 1 j) :
    FK M' (T0 ++ [.inl (0, n, .inl g), .inr (6, [.int (nI 1), .int (nI m), .ref (153 + (20 + b))])]) (nB B nf b 2) nf 1 m := by
  have hq := FQ.mk hE h24 hn hz
  obtain ⟨hn2, hs1, hs2⟩ := hS
  unfold FK
  rw [nB_e, nB_s]
  exact Or.inr (Or.inl ⟨⟨rfl, tq (M.2.1 1), ⟨ap_k (k := 1) hl, by rw [← hn2]; exact DQ.mk hl hn hg hz⟩, ⟨tp_le hs1, hs2⟩, by rw [hE.2.2.2.1.1, upd_s]; rfl, by rw [← hn2]; exact hq⟩, Nat.le_refl _⟩)
theorem FK_z {S : x_S} {M M' : x_M} {T T0 : List va_E} {B : Nat → Nat} {b nf n r m K : Nat} {g : Nat → Int32} {Fp : Nat → Option Nat} (hA : FA S M T B nf) (hE : MK M M' (nI 3) (nI 1) (nI m) nf n r) (hl : T0.length = b) (h24 : nf < 24) (hn : n ≤ 96) (hz : ∀ j, zN (M.2.1 1 j).toInt) (h2 : M.2.1 1 2 = nI K) (hK : 1 ≤ K ∧ K ≤ 8) (hS : tp_Z4 (M.2.1 1) (M.2.1 5) (M.2.1 6) n nf (nI m) K (K - 1)) (hg : ∀ j, j < n → g j = M.2.1 1 j) (hF : ∀ j, j < K → ∃ f pa : Nat, M.2.1 1 (3 + j) = nI f ∧ f < 24 ∧ S.2.2.1 0 f = some (153 + pa) ∧ Fp j = some (153 + pa)) :
    FK M' (T0 ++ [.inl (0, n, .inl g), .inr (7, [.ref (153 + (20 + (b + 2))), .int (nI 1), .int (nI m), .ref (153 + (20 + b))]), .inl (4, K, .inr (.inr (.inr (.inr Fp))))]) (nB B nf b 3) nf 1 m := by
  have hq := FQ.mk hE h24 hn hz
  obtain ⟨⟨hs1, hn2, hs2⟩, hs3⟩ := hS
  have nt : ∀ a : Nat, a < 2 ^ 31 → (nI a).toInt = a := fun a ha => by rw [iZ_n]; exact iZ_t ⟨by omega, by omega⟩
  unfold FK
  rw [nB_e, nB_s]
  refine Or.inr (Or.inr (Or.inl ⟨⟨rfl, tq (M.2.1 1), K, Fp, ⟨ap_k (k := 1) hl, by rw [← hn2]; exact DQ.mk hl hn hg hz, ap_k (k := 2) hl⟩, ⟨hK, by show (M.2.1 1 2).toInt = K; rw [h2]; exact nt K (by omega), tp_le hs1.2.1⟩, by rw [hE.2.2.2.1.1, upd_s]; rfl, by rw [← hn2]; exact hq, fun j hj => ?_⟩, Nat.le_refl _⟩))
  obtain ⟨f, pa, f1, f2, f3, f4⟩ := hF j hj
  obtain ⟨⟨z1, z2⟩, z3, z4⟩ := hs2 j hj
  have e := nt f (by omega)
  rw [f1, e] at z1 z2
  rw [f1, show (nI f).toNatClampNeg = f from by show (nI f).toInt.toNat = f; rw [e]; rfl] at z3 z4
  have hf : f < nf := by omega
  obtain ⟨i', o', -, y1, -, -⟩ := hA.2.2 f hf
  refine ⟨f, hf, by show (M.2.1 1 (3 + j)).toInt = f; rw [f1]; exact e, by rw [nB_l hf, f4, ← f3]; exact y1, ?_, ?_⟩
  · rw [hE.2.2.2.1.2.1, upd_n (by omega)]; exact z3
  · rw [hE.2.2.2.1.2.2.1, upd_n (by omega)]; exact z4
theorem FK_g {M M' : x_M} {T0 : List va_E} {B : Nat → Nat} {b nf n r i m k0 : Nat} {g : Nat → Int32} {Q P0 : pP} {Wf : Nat → Option Nat} {A B' C : Nat → Int32} (hE : MK M M' (nI 4) (nI i) (nI m) nf n r) (hl : T0.length = b) (h24 : nf < 24) (hn : n ≤ 96) (hr : r ≤ 8192) (hz : ∀ j, zN (M.2.1 1 j).toInt) (hS : tp_P (M.2.1 1) n (i + m) (i + m)) (hg : ∀ j, j < n → g j = M.2.1 1 j) (hc : ∀ j, j < qn Q → Wf j = some (qc Q j) ∧ A j = iZ (qm Q j) ∧ B' j = nI (qt Q j) ∧ C j = nI (qe Q j)) (h0 : qn P0 = 0 ∧ qd P0 = 0) (hp : ∀ sg : Nat → Nat, (∀ j, j < r → sg j = sgn (M.2.1 0 j)) → prs sg r 401 (ws sg r 0) P0 = (-1, k0, Q)) :
    FK M' (T0 ++ [.inl (0, n, .inl g), .inr (8, [.int (nI (qn Q)), .ref (153 + (20 + (b + 2))), .ref (153 + (20 + (b + 3))), .ref (153 + (20 + (b + 4))), .ref (153 + (20 + (b + 5))), .ref 150, .int (nI i), .int (nI m), .ref (153 + (20 + b))]), .inl (5, qn Q, .inr (.inr (.inr (.inr Wf)))), .inl (0, qn Q, .inl A), .inl (0, qn Q, .inl B'), .inl (0, qn Q, .inl C)]) (nB B nf b 6) nf i m := by
  have hq := FQ.mk hE h24 hn hz
  obtain ⟨hn2, hs1⟩ := hS
  unfold FK
  rw [nB_e, nB_s]
  exact Or.inr (Or.inr (Or.inr ⟨⟨tq (M.2.1 1), Q, P0, k0, r, Wf, A, B', C, ⟨ap_k (k := 1) hl, by rw [← hn2]; exact DQ.mk hl hn hg hz, ap_k (k := 2) hl, ap_k (k := 3) hl, ap_k (k := 4) hl, ap_k (k := 5) hl⟩, hc, fun k hk => tp_le (hs1 k hk), by rw [hE.2.2.2.1.1, upd_s]; rfl, by rw [← hn2]; exact hq, ⟨by rw [hE.2.2.2.1.2.2.2, upd_s], hr⟩, h0, hp (sgM M' nf) (fun j hj => congrArg sgn (hE.2.2.2.2.2.1 j hj))⟩, Nat.le_refl _⟩))
