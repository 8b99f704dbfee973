/-! THE REFERENCE's words -/
def sgM (M : x_M) (f : Nat) : Nat → Nat := fun j => sgn (M.2.1 9 (8192 * f + j))
theorem sgM_lt (M : x_M) (f j : Nat) : sgM M f j < 256 := sgn_lt _
/-- the names in the reference's order -/
def NM : List Nat := [5, 6, 7, 8, 9, 10, 11, 12, 13, 14, 15, 16, 17, 18, 19, 21, 22, 23, 24, 25, 26, 3, 4, 27, 28, 29, 30, 20, 31, 32, 33, 34, 35, 36, 37, 38]
def nmc (k : Nat) : Nat := NM.getD k 0
theorem nmc_l : ∀ k, k < 36 → 3 ≤ nmc k ∧ nmc k < 39 := by decide
theorem nmc_i : ∀ j, j < 36 → ∀ k, k < 36 → nmc j = nmc k → j = k := by decide
/-- which name a word has; -1 for none -/
noncomputable def nof (c : Nat) : Int := if h : ∃ k, k < 36 ∧ nmc k = c then (Classical.choose h : Nat) else -1
theorem nof_k {k c : Nat} (hk : k < 36) (h : c = nmc k) : nof c = k := by
  have hx : ∃ k, k < 36 ∧ nmc k = c := ⟨k, hk, h.symm⟩
  unfold nof
  rw [dif_pos hx]
  have e := Classical.choose_spec hx
  rw [nmc_i _ e.1 k hk (e.2.trans h)]
theorem nof_n {c : Nat} (h : ∀ k, k < 36 → nmc k ≠ c) : nof c = -1 := by
  unfold nof
  rw [dif_neg (fun ⟨k, hk, e⟩ => h k hk e)]
theorem nmc_s : ∀ c, 3 ≤ c → c < 39 → ∃ k, k < 36 ∧ nmc k = c := by
  have : ∀ c, c < 39 → 3 ≤ c → ∃ k, k < 36 ∧ nmc k = c := by decide
  exact fun c a b => this c b a
theorem nof_b {c : Nat} (a : 3 ≤ c) (b : c < 39) : 0 ≤ nof c ∧ nof c < 36 := by
  obtain ⟨k, hk, e⟩ := nmc_s c a b
  rw [nof_k hk e.symm]; omega
theorem nof_39 : nof 39 = -1 := nof_n (fun k hk z => by have := nmc_l k hk; omega)
set_option maxHeartbeats 4000000 in
set_option maxRecDepth 100000 in
theorem M_isWord_m {l : Launch} {G : ax_G} (S : x_S) (M : x_M) (tl : List va_E) (f w i s e : Nat) (hf : f < 24) (hw : w < 402) (hi : i < 39) (hb : M.2.1 11 w = nI s) (he : M.2.1 12 w = nI e) (hs : s ≤ e ∧ e ≤ 8192) :
    AM l VV G M_isWord_y M_isWord_c 6 (some .boolean) 4 0 0 [.ref 153, .int (nI f), .int (nI w), .ref (39 + i)] (x_hM S M tl) (fun v h' => v = some (.int (bI (isT (sgM M f) s e (tx i)))) ∧ h' = x_hM S M tl) := by
  refine AM.of (pl := pl_M) (by decide) v_good fl_M_ok kl_M_ok nofun (Nat.le_of_ble_eq_true rfl) ?_
  intro p0v e0v s0v m0v args below meth c0v X
  have h8 := tx_l i hi
  refine AW.run X M_isWord_d 0 3 rfl ?_
  refine AW.ml12 (j := w) X rfl hw (M_isWord_d.d 3 rfl) ?_
  rw [he]
  refine AW.run X M_isWord_d 4 3 rfl ?_
  refine AW.ml11 (j := w) X rfl hw (M_isWord_d.d 7 rfl) ?_
  rw [hb]
  refine AW.run X M_isWord_d 8 2 rfl ?_
  refine AW.callV (As := []) X (JString_length_m i hi ((x_at S (x_ms M ++ tl) (by omega)).trans (v_st i hi))) cb_M_198 ((x_at S (x_ms M ++ tl) (by omega)).trans (v_st i hi)) rfl JString_length_im JString_length_se rfl ⟨Nat.le_of_ble_eq_true rfl, Nat.le_of_ble_eq_true rfl⟩ (Nat.le_of_ble_eq_true rfl) ⟨Nat.le_of_ble_eq_true rfl, Nat.le_of_ble_eq_true rfl⟩ (M_isWord_d.d 10 rfl) (fun v h' q => ?_)
  obtain ⟨rfl, rfl⟩ := q
  have J25 : ∀ (z : Int32), z = bI (decide ((tx i).length = e - s)) → AW p0v l e0v (ax_R 4 0 0) s0v m0v args below meth c0v VV G 6 (x_hM S M tl) 0 0 (MQ below (ax_Q VV G (fun v h' => v = some (.int (bI (isT (sgM M f) s e (tx i)))) ∧ h' = x_hM S M tl)) args s0v 0 0 (fun q => G.bs ≤ q)) 25 [(0, .ref 153), (1, .int (nI f)), (2, .int (nI w)), (3, .ref (39 + i))] [.int z] := by
    intro z hz; subst hz
    refine AW.run X M_isWord_d 15 3 rfl ?_
    have L30 : ∀ (t2 j : Nat) (b : Bool), j ≤ (tx i).length → (b = true → (tx i).length = e - s ∧ ∀ k, k < j → (sgM M f) (s + k) = (tx i).getD k 0) → (b = false → isT (sgM M f) s e (tx i) = false) → (tx i).length - j < t2 → AW p0v l e0v (ax_R 4 0 0) s0v m0v args below meth c0v VV G 6 (x_hM S M tl) 0 0 (MQ below (ax_Q VV G (fun v h' => v = some (.int (bI (isT (sgM M f) s e (tx i)))) ∧ h' = x_hM S M tl)) args s0v 0 0 (fun q => G.bs ≤ q)) 30 [(5, .int (nI j)), (4, .int (bI b)), (0, .ref 153), (1, .int (nI f)), (2, .int (nI w)), (3, .ref (39 + i))] [] := by
      intro t2
      induction t2 with
      | zero => intro j b h1 e1 e2 h2; exact absurd h2 (by omega)
      | succ t2 ih =>
        intro j b h1 e1 e2 h2
        refine AW.run X M_isWord_d 18 2 rfl ?_
        refine AW.callV (As := []) X (JString_length_m i hi ((x_at S (x_ms M ++ tl) (by omega)).trans (v_st i hi))) cb_M_198 ((x_at S (x_ms M ++ tl) (by omega)).trans (v_st i hi)) rfl JString_length_im JString_length_se rfl ⟨Nat.le_of_ble_eq_true rfl, Nat.le_of_ble_eq_true rfl⟩ (Nat.le_of_ble_eq_true rfl) ⟨Nat.le_of_ble_eq_true rfl, Nat.le_of_ble_eq_true rfl⟩ (M_isWord_d.d 20 rfl) (fun v h' q => ?_)
        obtain ⟨rfl, rfl⟩ := q
        refine AW.icmp_ge X (M_isWord_d.d 21 rfl) (fun q21 => ?_) (fun q21 => ?_)
        · refine AW.run X M_isWord_d 43 1 rfl ?_
          exact AW.zret X (bI_nar _) (M_isWord_d.d 44 rfl) (Nat.le_of_ble_eq_true rfl) (Nat.le_of_ble_eq_true rfl) ⟨by
            cases b with
            | true =>
              have := e1 rfl
              rw [isT_t this.1, txe_y (fun k hk => this.2 k (by have := cge q21; omega))]
            | false => rw [e2 rfl], rfl⟩
        · have hj : j < (tx i).length := clt q21
          refine AW.run X M_isWord_d 22 1 rfl ?_
          refine AW.if_eq X (M_isWord_d.d 23 rfl) (fun q23 => ?_) (fun q23 => ?_)
          · refine AW.run X M_isWord_d 43 1 rfl ?_
            exact AW.zret X (bI_nar _) (M_isWord_d.d 44 rfl) (Nat.le_of_ble_eq_true rfl) (Nat.le_of_ble_eq_true rfl) ⟨by rw [e2 ((bI_0 _).mp q23), (bI_0 _).mp q23], rfl⟩
          · have hbt : b = true := Bool.of_not_eq_false (fun y => q23 ((bI_0 _).mpr y))
            obtain ⟨e3, e4⟩ := e1 hbt
            have hcb := tx_b i hi j (by omega)
            have hsl := sgM_lt M f (s + j)
            refine AW.run X M_isWord_d 24 5 rfl ?_
            refine AW.ml11 (j := w) X rfl hw (M_isWord_d.d 29 rfl) ?_
            rw [hb]
            refine AW.run X M_isWord_d 30 2 rfl ?_
            rw [nI_add]
            refine AW.callV (As := [.int (nI f), .int (nI (s + j))]) X (M_signAt_m S M tl f (s + j) (by omega)) cb_M_177 rfl rfl M_signAt_im M_signAt_se rfl ⟨Nat.le_of_ble_eq_true rfl, Nat.le_of_ble_eq_true rfl⟩ (Nat.le_of_ble_eq_true rfl) ⟨Nat.le_of_ble_eq_true rfl, Nat.le_of_ble_eq_true rfl⟩ (M_isWord_d.d 32 rfl) (fun v h' q => ?_)
            obtain ⟨rfl, rfl⟩ := q
            rw [sgn_and, show sgn (M.2.1 9 (8192 * f + (s + j))) = sgM M f (s + j) from rfl]
            refine AW.run X M_isWord_d 33 2 rfl ?_
            refine AW.callV (As := [.int (nI j)]) X (JString_charAt_m i j hi hj ((x_at S (x_ms M ++ tl) (by omega)).trans (v_st i hi))) cb_M_204 ((x_at S (x_ms M ++ tl) (by omega)).trans (v_st i hi)) rfl JString_charAt_im JString_charAt_se rfl ⟨Nat.le_of_ble_eq_true rfl, Nat.le_of_ble_eq_true rfl⟩ (Nat.le_of_ble_eq_true rfl) ⟨Nat.le_of_ble_eq_true rfl, Nat.le_of_ble_eq_true rfl⟩ (M_isWord_d.d 35 rfl) (fun v h' q => ?_)
            obtain ⟨rfl, rfl⟩ := q
            refine AW.icmp_ne X (M_isWord_d.d 36 rfl) (fun q36 => ?_) (fun q36 => ?_)
            · refine AW.run X M_isWord_d 39 3 rfl ?_
              refine AW.goto X (M_isWord_d.d 42 rfl) ?_
              rw [nI_o1]
              exact ih (j + 1) false (by omega) (fun z => by cases z) (fun _ => by rw [isT_t e3]; exact txe_n hj (fun z => q36 (by rw [z]))) (by omega)
            · refine AW.run X M_isWord_d 37 1 rfl ?_
              refine AW.goto X (M_isWord_d.d 38 rfl) ?_
              refine AW.run X M_isWord_d 40 2 rfl ?_
              refine AW.goto X (M_isWord_d.d 42 rfl) ?_
              rw [nI_o1]
              exact ih (j + 1) true (by omega) (fun _ => ⟨e3, fun k hk => by
                by_cases z : k = j
                · rw [z]; exact (nI_eq (by have := hsl; omega) (by omega)).mp q36
                · exact e4 k (by omega)⟩) (fun z => by cases z) (by omega)
    exact L30 ((tx i).length + 1) 0 (decide ((tx i).length = e - s)) (by omega) (fun z => ⟨of_decide_eq_true z, fun k hk => absurd hk (by omega)⟩) (fun z => isT_l (of_decide_eq_false z)) (by omega)
  refine AW.icmp_ne X (M_isWord_d.d 11 rfl) (fun q11 => ?_) (fun q11 => ?_)
  · refine AW.run X M_isWord_d 14 1 rfl ?_
    exact J25 _ (by rw [decide_eq_false (fun z => q11 (by rw [pk_sub (by omega), z]))]; rfl)
  · refine AW.run X M_isWord_d 12 1 rfl ?_
    refine AW.goto X (M_isWord_d.d 13 rfl) ?_
    exact J25 _ (by rw [decide_eq_true (show (tx i).length = e - s from ((nI_eq (by omega) (by omega)).mp (by rw [← pk_sub (by omega)]; exact q11)).symm)]; rfl)

set_option maxHeartbeats 4000000 in
set_option maxRecDepth 100000 in
theorem M_name0_m {l : Launch} {G : ax_G} {h : List va_E}  :
    AM l VV G M_name_y M_name_c 1 (some (.object "java/lang/String")) 0 0 0 [.int 0] (h) (fun v h' => v = some (.ref 44) ∧ h' = h) := by
  refine AM.of (pl := pl_M) (by decide) v_good fl_M_ok kl_M_ok nofun (Nat.le_of_ble_eq_true rfl) ?_
  intro p0v e0v s0v m0v args below meth c0v X
  refine AW.run X M_name_d 0 1 rfl ?_
  refine AW.tableIn X (M_name_d.d 1 rfl) (by decide) (by decide) (off := 155) (by decide) ?_
  refine AW.ldcS X (List.mem_of_getElem? (i := 11) rfl) (M_name_d.d 2 rfl) ?_
  exact AW.aret X (some 44) (M_name_d.d 3 rfl) (Nat.le_of_ble_eq_true rfl) (Nat.le_of_ble_eq_true rfl) ⟨rfl, rfl⟩

set_option maxHeartbeats 4000000 in
set_option maxRecDepth 100000 in
theorem M_name1_m {l : Launch} {G : ax_G} {h : List va_E}  :
    AM l VV G M_name_y M_name_c 1 (some (.object "java/lang/String")) 0 0 0 [.int 1] (h) (fun v h' => v = some (.ref 45) ∧ h' = h) := by
  refine AM.of (pl := pl_M) (by decide) v_good fl_M_ok kl_M_ok nofun (Nat.le_of_ble_eq_true rfl) ?_
  intro p0v e0v s0v m0v args below meth c0v X
  refine AW.run X M_name_d 0 1 rfl ?_
  refine AW.tableIn X (M_name_d.d 1 rfl) (by decide) (by decide) (off := 158) (by decide) ?_
  refine AW.ldcS X (List.mem_of_getElem? (i := 12) rfl) (M_name_d.d 4 rfl) ?_
  exact AW.aret X (some 45) (M_name_d.d 5 rfl) (Nat.le_of_ble_eq_true rfl) (Nat.le_of_ble_eq_true rfl) ⟨rfl, rfl⟩

set_option maxHeartbeats 4000000 in
set_option maxRecDepth 100000 in
theorem M_name2_m {l : Launch} {G : ax_G} {h : List va_E}  :
    AM l VV G M_name_y M_name_c 1 (some (.object "java/lang/String")) 0 0 0 [.int 2] (h) (fun v h' => v = some (.ref 46) ∧ h' = h) := by
  refine AM.of (pl := pl_M) (by decide) v_good fl_M_ok kl_M_ok nofun (Nat.le_of_ble_eq_true rfl) ?_
  intro p0v e0v s0v m0v args below meth c0v X
  refine AW.run X M_name_d 0 1 rfl ?_
  refine AW.tableIn X (M_name_d.d 1 rfl) (by decide) (by decide) (off := 161) (by decide) ?_
  refine AW.ldcS X (List.mem_of_getElem? (i := 13) rfl) (M_name_d.d 6 rfl) ?_
  exact AW.aret X (some 46) (M_name_d.d 7 rfl) (Nat.le_of_ble_eq_true rfl) (Nat.le_of_ble_eq_true rfl) ⟨rfl, rfl⟩

set_option maxHeartbeats 4000000 in
set_option maxRecDepth 100000 in
theorem M_name3_m {l : Launch} {G : ax_G} {h : List va_E}  :
    AM l VV G M_name_y M_name_c 1 (some (.object "java/lang/String")) 0 0 0 [.int 3] (h) (fun v h' => v = some (.ref 47) ∧ h' = h) := by
  refine AM.of (pl := pl_M) (by decide) v_good fl_M_ok kl_M_ok nofun (Nat.le_of_ble_eq_true rfl) ?_
  intro p0v e0v s0v m0v args below meth c0v X
  refine AW.run X M_name_d 0 1 rfl ?_
  refine AW.tableIn X (M_name_d.d 1 rfl) (by decide) (by decide) (off := 164) (by decide) ?_
  refine AW.ldcS X (List.mem_of_getElem? (i := 14) rfl) (M_name_d.d 8 rfl) ?_
  exact AW.aret X (some 47) (M_name_d.d 9 rfl) (Nat.le_of_ble_eq_true rfl) (Nat.le_of_ble_eq_true rfl) ⟨rfl, rfl⟩

set_option maxHeartbeats 4000000 in
set_option maxRecDepth 100000 in
theorem M_name4_m {l : Launch} {G : ax_G} {h : List va_E}  :
    AM l VV G M_name_y M_name_c 1 (some (.object "java/lang/String")) 0 0 0 [.int 4] (h) (fun v h' => v = some (.ref 48) ∧ h' = h) := by
  refine AM.of (pl := pl_M) (by decide) v_good fl_M_ok kl_M_ok nofun (Nat.le_of_ble_eq_true rfl) ?_
  intro p0v e0v s0v m0v args below meth c0v X
  refine AW.run X M_name_d 0 1 rfl ?_
  refine AW.tableIn X (M_name_d.d 1 rfl) (by decide) (by decide) (off := 167) (by decide) ?_
  refine AW.ldcS X (List.mem_of_getElem? (i := 15) rfl) (M_name_d.d 10 rfl) ?_
  exact AW.aret X (some 48) (M_name_d.d 11 rfl) (Nat.le_of_ble_eq_true rfl) (Nat.le_of_ble_eq_true rfl) ⟨rfl, rfl⟩

set_option maxHeartbeats 4000000 in
set_option maxRecDepth 100000 in
theorem M_name5_m {l : Launch} {G : ax_G} {h : List va_E}  :
    AM l VV G M_name_y M_name_c 1 (some (.object "java/lang/String")) 0 0 0 [.int 5] (h) (fun v h' => v = some (.ref 49) ∧ h' = h) := by
  refine AM.of (pl := pl_M) (by decide) v_good fl_M_ok kl_M_ok nofun (Nat.le_of_ble_eq_true rfl) ?_
  intro p0v e0v s0v m0v args below meth c0v X
  refine AW.run X M_name_d 0 1 rfl ?_
  refine AW.tableIn X (M_name_d.d 1 rfl) (by decide) (by decide) (off := 170) (by decide) ?_
  refine AW.ldcS X (List.mem_of_getElem? (i := 16) rfl) (M_name_d.d 12 rfl) ?_
  exact AW.aret X (some 49) (M_name_d.d 13 rfl) (Nat.le_of_ble_eq_true rfl) (Nat.le_of_ble_eq_true rfl) ⟨rfl, rfl⟩

set_option maxHeartbeats 4000000 in
set_option maxRecDepth 100000 in
theorem M_name6_m {l : Launch} {G : ax_G} {h : List va_E}  :
    AM l VV G M_name_y M_name_c 1 (some (.object "java/lang/String")) 0 0 0 [.int 6] (h) (fun v h' => v = some (.ref 50) ∧ h' = h) := by
  refine AM.of (pl := pl_M) (by decide) v_good fl_M_ok kl_M_ok nofun (Nat.le_of_ble_eq_true rfl) ?_
  intro p0v e0v s0v m0v args below meth c0v X
  refine AW.run X M_name_d 0 1 rfl ?_
  refine AW.tableIn X (M_name_d.d 1 rfl) (by decide) (by decide) (off := 173) (by decide) ?_
  refine AW.ldcS X (List.mem_of_getElem? (i := 17) rfl) (M_name_d.d 14 rfl) ?_
  exact AW.aret X (some 50) (M_name_d.d 15 rfl) (Nat.le_of_ble_eq_true rfl) (Nat.le_of_ble_eq_true rfl) ⟨rfl, rfl⟩

set_option maxHeartbeats 4000000 in
set_option maxRecDepth 100000 in
theorem M_name7_m {l : Launch} {G : ax_G} {h : List va_E}  :
    AM l VV G M_name_y M_name_c 1 (some (.object "java/lang/String")) 0 0 0 [.int 7] (h) (fun v h' => v = some (.ref 51) ∧ h' = h) := by
  refine AM.of (pl := pl_M) (by decide) v_good fl_M_ok kl_M_ok nofun (Nat.le_of_ble_eq_true rfl) ?_
  intro p0v e0v s0v m0v args below meth c0v X
  refine AW.run X M_name_d 0 1 rfl ?_
  refine AW.tableIn X (M_name_d.d 1 rfl) (by decide) (by decide) (off := 176) (by decide) ?_
  refine AW.ldcS X (List.mem_of_getElem? (i := 18) rfl) (M_name_d.d 16 rfl) ?_
  exact AW.aret X (some 51) (M_name_d.d 17 rfl) (Nat.le_of_ble_eq_true rfl) (Nat.le_of_ble_eq_true rfl) ⟨rfl, rfl⟩

set_option maxHeartbeats 4000000 in
set_option maxRecDepth 100000 in
theorem M_name8_m {l : Launch} {G : ax_G} {h : List va_E}  :
    AM l VV G M_name_y M_name_c 1 (some (.object "java/lang/String")) 0 0 0 [.int 8] (h) (fun v h' => v = some (.ref 52) ∧ h' = h) := by
  refine AM.of (pl := pl_M) (by decide) v_good fl_M_ok kl_M_ok nofun (Nat.le_of_ble_eq_true rfl) ?_
  intro p0v e0v s0v m0v args below meth c0v X
  refine AW.run X M_name_d 0 1 rfl ?_
  refine AW.tableIn X (M_name_d.d 1 rfl) (by decide) (by decide) (off := 179) (by decide) ?_
  refine AW.ldcS X (List.mem_of_getElem? (i := 19) rfl) (M_name_d.d 18 rfl) ?_
  exact AW.aret X (some 52) (M_name_d.d 19 rfl) (Nat.le_of_ble_eq_true rfl) (Nat.le_of_ble_eq_true rfl) ⟨rfl, rfl⟩

set_option maxHeartbeats 4000000 in
set_option maxRecDepth 100000 in
theorem M_name9_m {l : Launch} {G : ax_G} {h : List va_E}  :
    AM l VV G M_name_y M_name_c 1 (some (.object "java/lang/String")) 0 0 0 [.int 9] (h) (fun v h' => v = some (.ref 53) ∧ h' = h) := by
  refine AM.of (pl := pl_M) (by decide) v_good fl_M_ok kl_M_ok nofun (Nat.le_of_ble_eq_true rfl) ?_
  intro p0v e0v s0v m0v args below meth c0v X
  refine AW.run X M_name_d 0 1 rfl ?_
  refine AW.tableIn X (M_name_d.d 1 rfl) (by decide) (by decide) (off := 182) (by decide) ?_
  refine AW.ldcS X (List.mem_of_getElem? (i := 20) rfl) (M_name_d.d 20 rfl) ?_
  exact AW.aret X (some 53) (M_name_d.d 21 rfl) (Nat.le_of_ble_eq_true rfl) (Nat.le_of_ble_eq_true rfl) ⟨rfl, rfl⟩

set_option maxHeartbeats 4000000 in
set_option maxRecDepth 100000 in
theorem M_name10_m {l : Launch} {G : ax_G} {h : List va_E}  :
    AM l VV G M_name_y M_name_c 1 (some (.object "java/lang/String")) 0 0 0 [.int 10] (h) (fun v h' => v = some (.ref 54) ∧ h' = h) := by
  refine AM.of (pl := pl_M) (by decide) v_good fl_M_ok kl_M_ok nofun (Nat.le_of_ble_eq_true rfl) ?_
  intro p0v e0v s0v m0v args below meth c0v X
  refine AW.run X M_name_d 0 1 rfl ?_
  refine AW.tableIn X (M_name_d.d 1 rfl) (by decide) (by decide) (off := 185) (by decide) ?_
  refine AW.ldcS X (List.mem_of_getElem? (i := 21) rfl) (M_name_d.d 22 rfl) ?_
  exact AW.aret X (some 54) (M_name_d.d 23 rfl) (Nat.le_of_ble_eq_true rfl) (Nat.le_of_ble_eq_true rfl) ⟨rfl, rfl⟩

set_option maxHeartbeats 4000000 in
set_option maxRecDepth 100000 in
theorem M_name11_m {l : Launch} {G : ax_G} {h : List va_E}  :
    AM l VV G M_name_y M_name_c 1 (some (.object "java/lang/String")) 0 0 0 [.int 11] (h) (fun v h' => v = some (.ref 55) ∧ h' = h) := by
  refine AM.of (pl := pl_M) (by decide) v_good fl_M_ok kl_M_ok nofun (Nat.le_of_ble_eq_true rfl) ?_
  intro p0v e0v s0v m0v args below meth c0v X
  refine AW.run X M_name_d 0 1 rfl ?_
  refine AW.tableIn X (M_name_d.d 1 rfl) (by decide) (by decide) (off := 188) (by decide) ?_
  refine AW.ldcS X (List.mem_of_getElem? (i := 22) rfl) (M_name_d.d 24 rfl) ?_
  exact AW.aret X (some 55) (M_name_d.d 25 rfl) (Nat.le_of_ble_eq_true rfl) (Nat.le_of_ble_eq_true rfl) ⟨rfl, rfl⟩

set_option maxHeartbeats 4000000 in
set_option maxRecDepth 100000 in
theorem M_name12_m {l : Launch} {G : ax_G} {h : List va_E}  :
    AM l VV G M_name_y M_name_c 1 (some (.object "java/lang/String")) 0 0 0 [.int 12] (h) (fun v h' => v = some (.ref 56) ∧ h' = h) := by
  refine AM.of (pl := pl_M) (by decide) v_good fl_M_ok kl_M_ok nofun (Nat.le_of_ble_eq_true rfl) ?_
  intro p0v e0v s0v m0v args below meth c0v X
  refine AW.run X M_name_d 0 1 rfl ?_
  refine AW.tableIn X (M_name_d.d 1 rfl) (by decide) (by decide) (off := 191) (by decide) ?_
  refine AW.ldcS X (List.mem_of_getElem? (i := 23) rfl) (M_name_d.d 26 rfl) ?_
  exact AW.aret X (some 56) (M_name_d.d 27 rfl) (Nat.le_of_ble_eq_true rfl) (Nat.le_of_ble_eq_true rfl) ⟨rfl, rfl⟩

set_option maxHeartbeats 4000000 in
set_option maxRecDepth 100000 in
theorem M_name13_m {l : Launch} {G : ax_G} {h : List va_E}  :
    AM l VV G M_name_y M_name_c 1 (some (.object "java/lang/String")) 0 0 0 [.int 13] (h) (fun v h' => v = some (.ref 57) ∧ h' = h) := by
  refine AM.of (pl := pl_M) (by decide) v_good fl_M_ok kl_M_ok nofun (Nat.le_of_ble_eq_true rfl) ?_
  intro p0v e0v s0v m0v args below meth c0v X
  refine AW.run X M_name_d 0 1 rfl ?_
  refine AW.tableIn X (M_name_d.d 1 rfl) (by decide) (by decide) (off := 194) (by decide) ?_
  refine AW.ldcW X (List.mem_of_getElem? (i := 24) rfl) (M_name_d.d 28 rfl) ?_
  exact AW.aret X (some 57) (M_name_d.d 29 rfl) (Nat.le_of_ble_eq_true rfl) (Nat.le_of_ble_eq_true rfl) ⟨rfl, rfl⟩

set_option maxHeartbeats 4000000 in
set_option maxRecDepth 100000 in
theorem M_name14_m {l : Launch} {G : ax_G} {h : List va_E}  :
    AM l VV G M_name_y M_name_c 1 (some (.object "java/lang/String")) 0 0 0 [.int 14] (h) (fun v h' => v = some (.ref 58) ∧ h' = h) := by
  refine AM.of (pl := pl_M) (by decide) v_good fl_M_ok kl_M_ok nofun (Nat.le_of_ble_eq_true rfl) ?_
  intro p0v e0v s0v m0v args below meth c0v X
  refine AW.run X M_name_d 0 1 rfl ?_
  refine AW.tableIn X (M_name_d.d 1 rfl) (by decide) (by decide) (off := 198) (by decide) ?_
  refine AW.ldcW X (List.mem_of_getElem? (i := 25) rfl) (M_name_d.d 30 rfl) ?_
  exact AW.aret X (some 58) (M_name_d.d 31 rfl) (Nat.le_of_ble_eq_true rfl) (Nat.le_of_ble_eq_true rfl) ⟨rfl, rfl⟩

set_option maxHeartbeats 4000000 in
set_option maxRecDepth 100000 in
theorem M_name15_m {l : Launch} {G : ax_G} {h : List va_E}  :
    AM l VV G M_name_y M_name_c 1 (some (.object "java/lang/String")) 0 0 0 [.int 15] (h) (fun v h' => v = some (.ref 60) ∧ h' = h) := by
  refine AM.of (pl := pl_M) (by decide) v_good fl_M_ok kl_M_ok nofun (Nat.le_of_ble_eq_true rfl) ?_
  intro p0v e0v s0v m0v args below meth c0v X
  refine AW.run X M_name_d 0 1 rfl ?_
  refine AW.tableIn X (M_name_d.d 1 rfl) (by decide) (by decide) (off := 202) (by decide) ?_
  refine AW.ldcW X (List.mem_of_getElem? (i := 26) rfl) (M_name_d.d 32 rfl) ?_
  exact AW.aret X (some 60) (M_name_d.d 33 rfl) (Nat.le_of_ble_eq_true rfl) (Nat.le_of_ble_eq_true rfl) ⟨rfl, rfl⟩

set_option maxHeartbeats 4000000 in
set_option maxRecDepth 100000 in
theorem M_name16_m {l : Launch} {G : ax_G} {h : List va_E}  :
    AM l VV G M_name_y M_name_c 1 (some (.object "java/lang/String")) 0 0 0 [.int 16] (h) (fun v h' => v = some (.ref 61) ∧ h' = h) := by
  refine AM.of (pl := pl_M) (by decide) v_good fl_M_ok kl_M_ok nofun (Nat.le_of_ble_eq_true rfl) ?_
  intro p0v e0v s0v m0v args below meth c0v X
  refine AW.run X M_name_d 0 1 rfl ?_
  refine AW.tableIn X (M_name_d.d 1 rfl) (by decide) (by decide) (off := 206) (by decide) ?_
  refine AW.ldcW X (List.mem_of_getElem? (i := 27) rfl) (M_name_d.d 34 rfl) ?_
  exact AW.aret X (some 61) (M_name_d.d 35 rfl) (Nat.le_of_ble_eq_true rfl) (Nat.le_of_ble_eq_true rfl) ⟨rfl, rfl⟩

set_option maxHeartbeats 4000000 in
set_option maxRecDepth 100000 in
theorem M_name17_m {l : Launch} {G : ax_G} {h : List va_E}  :
    AM l VV G M_name_y M_name_c 1 (some (.object "java/lang/String")) 0 0 0 [.int 17] (h) (fun v h' => v = some (.ref 62) ∧ h' = h) := by
  refine AM.of (pl := pl_M) (by decide) v_good fl_M_ok kl_M_ok nofun (Nat.le_of_ble_eq_true rfl) ?_
  intro p0v e0v s0v m0v args below meth c0v X
  refine AW.run X M_name_d 0 1 rfl ?_
  refine AW.tableIn X (M_name_d.d 1 rfl) (by decide) (by decide) (off := 210) (by decide) ?_
  refine AW.ldcW X (List.mem_of_getElem? (i := 28) rfl) (M_name_d.d 36 rfl) ?_
  exact AW.aret X (some 62) (M_name_d.d 37 rfl) (Nat.le_of_ble_eq_true rfl) (Nat.le_of_ble_eq_true rfl) ⟨rfl, rfl⟩

set_option maxHeartbeats 4000000 in
set_option maxRecDepth 100000 in
theorem M_name18_m {l : Launch} {G : ax_G} {h : List va_E}  :
    AM l VV G M_name_y M_name_c 1 (some (.object "java/lang/String")) 0 0 0 [.int 18] (h) (fun v h' => v = some (.ref 63) ∧ h' = h) := by
  refine AM.of (pl := pl_M) (by decide) v_good fl_M_ok kl_M_ok nofun (Nat.le_of_ble_eq_true rfl) ?_
  intro p0v e0v s0v m0v args below meth c0v X
  refine AW.run X M_name_d 0 1 rfl ?_
  refine AW.tableIn X (M_name_d.d 1 rfl) (by decide) (by decide) (off := 214) (by decide) ?_
  refine AW.ldcW X (List.mem_of_getElem? (i := 29) rfl) (M_name_d.d 38 rfl) ?_
  exact AW.aret X (some 63) (M_name_d.d 39 rfl) (Nat.le_of_ble_eq_true rfl) (Nat.le_of_ble_eq_true rfl) ⟨rfl, rfl⟩

set_option maxHeartbeats 4000000 in
set_option maxRecDepth 100000 in
theorem M_name19_m {l : Launch} {G : ax_G} {h : List va_E}  :
    AM l VV G M_name_y M_name_c 1 (some (.object "java/lang/String")) 0 0 0 [.int 19] (h) (fun v h' => v = some (.ref 64) ∧ h' = h) := by
  refine AM.of (pl := pl_M) (by decide) v_good fl_M_ok kl_M_ok nofun (Nat.le_of_ble_eq_true rfl) ?_
  intro p0v e0v s0v m0v args below meth c0v X
  refine AW.run X M_name_d 0 1 rfl ?_
  refine AW.tableIn X (M_name_d.d 1 rfl) (by decide) (by decide) (off := 218) (by decide) ?_
  refine AW.ldcW X (List.mem_of_getElem? (i := 30) rfl) (M_name_d.d 40 rfl) ?_
  exact AW.aret X (some 64) (M_name_d.d 41 rfl) (Nat.le_of_ble_eq_true rfl) (Nat.le_of_ble_eq_true rfl) ⟨rfl, rfl⟩

set_option maxHeartbeats 4000000 in
set_option maxRecDepth 100000 in
theorem M_name20_m {l : Launch} {G : ax_G} {h : List va_E}  :
    AM l VV G M_name_y M_name_c 1 (some (.object "java/lang/String")) 0 0 0 [.int 20] (h) (fun v h' => v = some (.ref 65) ∧ h' = h) := by
  refine AM.of (pl := pl_M) (by decide) v_good fl_M_ok kl_M_ok nofun (Nat.le_of_ble_eq_true rfl) ?_
  intro p0v e0v s0v m0v args below meth c0v X
  refine AW.run X M_name_d 0 1 rfl ?_
  refine AW.tableIn X (M_name_d.d 1 rfl) (by decide) (by decide) (off := 222) (by decide) ?_
  refine AW.ldcW X (List.mem_of_getElem? (i := 31) rfl) (M_name_d.d 42 rfl) ?_
  exact AW.aret X (some 65) (M_name_d.d 43 rfl) (Nat.le_of_ble_eq_true rfl) (Nat.le_of_ble_eq_true rfl) ⟨rfl, rfl⟩

set_option maxHeartbeats 4000000 in
set_option maxRecDepth 100000 in
theorem M_name21_m {l : Launch} {G : ax_G} {h : List va_E}  :
    AM l VV G M_name_y M_name_c 1 (some (.object "java/lang/String")) 0 0 0 [.int 21] (h) (fun v h' => v = some (.ref 42) ∧ h' = h) := by
  refine AM.of (pl := pl_M) (by decide) v_good fl_M_ok kl_M_ok nofun (Nat.le_of_ble_eq_true rfl) ?_
  intro p0v e0v s0v m0v args below meth c0v X
  refine AW.run X M_name_d 0 1 rfl ?_
  refine AW.tableIn X (M_name_d.d 1 rfl) (by decide) (by decide) (off := 226) (by decide) ?_
  refine AW.ldcW X (List.mem_of_getElem? (i := 32) rfl) (M_name_d.d 44 rfl) ?_
  exact AW.aret X (some 42) (M_name_d.d 45 rfl) (Nat.le_of_ble_eq_true rfl) (Nat.le_of_ble_eq_true rfl) ⟨rfl, rfl⟩

set_option maxHeartbeats 4000000 in
set_option maxRecDepth 100000 in
theorem M_name22_m {l : Launch} {G : ax_G} {h : List va_E}  :
    AM l VV G M_name_y M_name_c 1 (some (.object "java/lang/String")) 0 0 0 [.int 22] (h) (fun v h' => v = some (.ref 43) ∧ h' = h) := by
  refine AM.of (pl := pl_M) (by decide) v_good fl_M_ok kl_M_ok nofun (Nat.le_of_ble_eq_true rfl) ?_
  intro p0v e0v s0v m0v args below meth c0v X
  refine AW.run X M_name_d 0 1 rfl ?_
  refine AW.tableIn X (M_name_d.d 1 rfl) (by decide) (by decide) (off := 230) (by decide) ?_
  refine AW.ldcW X (List.mem_of_getElem? (i := 33) rfl) (M_name_d.d 46 rfl) ?_
  exact AW.aret X (some 43) (M_name_d.d 47 rfl) (Nat.le_of_ble_eq_true rfl) (Nat.le_of_ble_eq_true rfl) ⟨rfl, rfl⟩

set_option maxHeartbeats 4000000 in
set_option maxRecDepth 100000 in
theorem M_name23_m {l : Launch} {G : ax_G} {h : List va_E}  :
    AM l VV G M_name_y M_name_c 1 (some (.object "java/lang/String")) 0 0 0 [.int 23] (h) (fun v h' => v = some (.ref 66) ∧ h' = h) := by
  refine AM.of (pl := pl_M) (by decide) v_good fl_M_ok kl_M_ok nofun (Nat.le_of_ble_eq_true rfl) ?_
  intro p0v e0v s0v m0v args below meth c0v X
  refine AW.run X M_name_d 0 1 rfl ?_
  refine AW.tableIn X (M_name_d.d 1 rfl) (by decide) (by decide) (off := 234) (by decide) ?_
  refine AW.ldcW X (List.mem_of_getElem? (i := 34) rfl) (M_name_d.d 48 rfl) ?_
  exact AW.aret X (some 66) (M_name_d.d 49 rfl) (Nat.le_of_ble_eq_true rfl) (Nat.le_of_ble_eq_true rfl) ⟨rfl, rfl⟩

set_option maxHeartbeats 4000000 in
set_option maxRecDepth 100000 in
theorem M_name24_m {l : Launch} {G : ax_G} {h : List va_E}  :
    AM l VV G M_name_y M_name_c 1 (some (.object "java/lang/String")) 0 0 0 [.int 24] (h) (fun v h' => v = some (.ref 67) ∧ h' = h) := by
  refine AM.of (pl := pl_M) (by decide) v_good fl_M_ok kl_M_ok nofun (Nat.le_of_ble_eq_true rfl) ?_
  intro p0v e0v s0v m0v args below meth c0v X
  refine AW.run X M_name_d 0 1 rfl ?_
  refine AW.tableIn X (M_name_d.d 1 rfl) (by decide) (by decide) (off := 238) (by decide) ?_
  refine AW.ldcW X (List.mem_of_getElem? (i := 35) rfl) (M_name_d.d 50 rfl) ?_
  exact AW.aret X (some 67) (M_name_d.d 51 rfl) (Nat.le_of_ble_eq_true rfl) (Nat.le_of_ble_eq_true rfl) ⟨rfl, rfl⟩

set_option maxHeartbeats 4000000 in
set_option maxRecDepth 100000 in
theorem M_name25_m {l : Launch} {G : ax_G} {h : List va_E}  :
    AM l VV G M_name_y M_name_c 1 (some (.object "java/lang/String")) 0 0 0 [.int 25] (h) (fun v h' => v = some (.ref 68) ∧ h' = h) := by
  refine AM.of (pl := pl_M) (by decide) v_good fl_M_ok kl_M_ok nofun (Nat.le_of_ble_eq_true rfl) ?_
  intro p0v e0v s0v m0v args below meth c0v X
  refine AW.run X M_name_d 0 1 rfl ?_
  refine AW.tableIn X (M_name_d.d 1 rfl) (by decide) (by decide) (off := 242) (by decide) ?_
  refine AW.ldcW X (List.mem_of_getElem? (i := 36) rfl) (M_name_d.d 52 rfl) ?_
  exact AW.aret X (some 68) (M_name_d.d 53 rfl) (Nat.le_of_ble_eq_true rfl) (Nat.le_of_ble_eq_true rfl) ⟨rfl, rfl⟩

set_option maxHeartbeats 4000000 in
set_option maxRecDepth 100000 in
theorem M_name26_m {l : Launch} {G : ax_G} {h : List va_E}  :
    AM l VV G M_name_y M_name_c 1 (some (.object "java/lang/String")) 0 0 0 [.int 26] (h) (fun v h' => v = some (.ref 69) ∧ h' = h) := by
  refine AM.of (pl := pl_M) (by decide) v_good fl_M_ok kl_M_ok nofun (Nat.le_of_ble_eq_true rfl) ?_
  intro p0v e0v s0v m0v args below meth c0v X
  refine AW.run X M_name_d 0 1 rfl ?_
  refine AW.tableIn X (M_name_d.d 1 rfl) (by decide) (by decide) (off := 246) (by decide) ?_
  refine AW.ldcW X (List.mem_of_getElem? (i := 37) rfl) (M_name_d.d 54 rfl) ?_
  exact AW.aret X (some 69) (M_name_d.d 55 rfl) (Nat.le_of_ble_eq_true rfl) (Nat.le_of_ble_eq_true rfl) ⟨rfl, rfl⟩

set_option maxHeartbeats 4000000 in
set_option maxRecDepth 100000 in
theorem M_name27_m {l : Launch} {G : ax_G} {h : List va_E}  :
    AM l VV G M_name_y M_name_c 1 (some (.object "java/lang/String")) 0 0 0 [.int 27] (h) (fun v h' => v = some (.ref 59) ∧ h' = h) := by
  refine AM.of (pl := pl_M) (by decide) v_good fl_M_ok kl_M_ok nofun (Nat.le_of_ble_eq_true rfl) ?_
  intro p0v e0v s0v m0v args below meth c0v X
  refine AW.run X M_name_d 0 1 rfl ?_
  refine AW.tableIn X (M_name_d.d 1 rfl) (by decide) (by decide) (off := 250) (by decide) ?_
  refine AW.ldcW X (List.mem_of_getElem? (i := 38) rfl) (M_name_d.d 56 rfl) ?_
  exact AW.aret X (some 59) (M_name_d.d 57 rfl) (Nat.le_of_ble_eq_true rfl) (Nat.le_of_ble_eq_true rfl) ⟨rfl, rfl⟩

set_option maxHeartbeats 4000000 in
set_option maxRecDepth 100000 in
theorem M_name28_m {l : Launch} {G : ax_G} {h : List va_E}  :
    AM l VV G M_name_y M_name_c 1 (some (.object "java/lang/String")) 0 0 0 [.int 28] (h) (fun v h' => v = some (.ref 70) ∧ h' = h) := by
  refine AM.of (pl := pl_M) (by decide) v_good fl_M_ok kl_M_ok nofun (Nat.le_of_ble_eq_true rfl) ?_
  intro p0v e0v s0v m0v args below meth c0v X
  refine AW.run X M_name_d 0 1 rfl ?_
  refine AW.tableIn X (M_name_d.d 1 rfl) (by decide) (by decide) (off := 254) (by decide) ?_
  refine AW.ldcW X (List.mem_of_getElem? (i := 39) rfl) (M_name_d.d 58 rfl) ?_
  exact AW.aret X (some 70) (M_name_d.d 59 rfl) (Nat.le_of_ble_eq_true rfl) (Nat.le_of_ble_eq_true rfl) ⟨rfl, rfl⟩

set_option maxHeartbeats 4000000 in
set_option maxRecDepth 100000 in
theorem M_name29_m {l : Launch} {G : ax_G} {h : List va_E}  :
    AM l VV G M_name_y M_name_c 1 (some (.object "java/lang/String")) 0 0 0 [.int 29] (h) (fun v h' => v = some (.ref 71) ∧ h' = h) := by
  refine AM.of (pl := pl_M) (by decide) v_good fl_M_ok kl_M_ok nofun (Nat.le_of_ble_eq_true rfl) ?_
  intro p0v e0v s0v m0v args below meth c0v X
  refine AW.run X M_name_d 0 1 rfl ?_
  refine AW.tableIn X (M_name_d.d 1 rfl) (by decide) (by decide) (off := 258) (by decide) ?_
  refine AW.ldcW X (List.mem_of_getElem? (i := 40) rfl) (M_name_d.d 60 rfl) ?_
  exact AW.aret X (some 71) (M_name_d.d 61 rfl) (Nat.le_of_ble_eq_true rfl) (Nat.le_of_ble_eq_true rfl) ⟨rfl, rfl⟩

set_option maxHeartbeats 4000000 in
set_option maxRecDepth 100000 in
theorem M_name30_m {l : Launch} {G : ax_G} {h : List va_E}  :
    AM l VV G M_name_y M_name_c 1 (some (.object "java/lang/String")) 0 0 0 [.int 30] (h) (fun v h' => v = some (.ref 72) ∧ h' = h) := by
  refine AM.of (pl := pl_M) (by decide) v_good fl_M_ok kl_M_ok nofun (Nat.le_of_ble_eq_true rfl) ?_
  intro p0v e0v s0v m0v args below meth c0v X
  refine AW.run X M_name_d 0 1 rfl ?_
  refine AW.tableIn X (M_name_d.d 1 rfl) (by decide) (by decide) (off := 262) (by decide) ?_
  refine AW.ldcW X (List.mem_of_getElem? (i := 41) rfl) (M_name_d.d 62 rfl) ?_
  exact AW.aret X (some 72) (M_name_d.d 63 rfl) (Nat.le_of_ble_eq_true rfl) (Nat.le_of_ble_eq_true rfl) ⟨rfl, rfl⟩

set_option maxHeartbeats 4000000 in
set_option maxRecDepth 100000 in
theorem M_name31_m {l : Launch} {G : ax_G} {h : List va_E}  :
    AM l VV G M_name_y M_name_c 1 (some (.object "java/lang/String")) 0 0 0 [.int 31] (h) (fun v h' => v = some (.ref 73) ∧ h' = h) := by
  refine AM.of (pl := pl_M) (by decide) v_good fl_M_ok kl_M_ok nofun (Nat.le_of_ble_eq_true rfl) ?_
  intro p0v e0v s0v m0v args below meth c0v X
  refine AW.run X M_name_d 0 1 rfl ?_
  refine AW.tableIn X (M_name_d.d 1 rfl) (by decide) (by decide) (off := 266) (by decide) ?_
  refine AW.ldcW X (List.mem_of_getElem? (i := 42) rfl) (M_name_d.d 64 rfl) ?_
  exact AW.aret X (some 73) (M_name_d.d 65 rfl) (Nat.le_of_ble_eq_true rfl) (Nat.le_of_ble_eq_true rfl) ⟨rfl, rfl⟩

set_option maxHeartbeats 4000000 in
set_option maxRecDepth 100000 in
theorem M_name32_m {l : Launch} {G : ax_G} {h : List va_E}  :
    AM l VV G M_name_y M_name_c 1 (some (.object "java/lang/String")) 0 0 0 [.int 32] (h) (fun v h' => v = some (.ref 74) ∧ h' = h) := by
  refine AM.of (pl := pl_M) (by decide) v_good fl_M_ok kl_M_ok nofun (Nat.le_of_ble_eq_true rfl) ?_
  intro p0v e0v s0v m0v args below meth c0v X
  refine AW.run X M_name_d 0 1 rfl ?_
  refine AW.tableIn X (M_name_d.d 1 rfl) (by decide) (by decide) (off := 270) (by decide) ?_
  refine AW.ldcW X (List.mem_of_getElem? (i := 43) rfl) (M_name_d.d 66 rfl) ?_
  exact AW.aret X (some 74) (M_name_d.d 67 rfl) (Nat.le_of_ble_eq_true rfl) (Nat.le_of_ble_eq_true rfl) ⟨rfl, rfl⟩

set_option maxHeartbeats 4000000 in
set_option maxRecDepth 100000 in
theorem M_name33_m {l : Launch} {G : ax_G} {h : List va_E}  :
    AM l VV G M_name_y M_name_c 1 (some (.object "java/lang/String")) 0 0 0 [.int 33] (h) (fun v h' => v = some (.ref 75) ∧ h' = h) := by
  refine AM.of (pl := pl_M) (by decide) v_good fl_M_ok kl_M_ok nofun (Nat.le_of_ble_eq_true rfl) ?_
  intro p0v e0v s0v m0v args below meth c0v X
  refine AW.run X M_name_d 0 1 rfl ?_
  refine AW.tableIn X (M_name_d.d 1 rfl) (by decide) (by decide) (off := 274) (by decide) ?_
  refine AW.ldcW X (List.mem_of_getElem? (i := 44) rfl) (M_name_d.d 68 rfl) ?_
  exact AW.aret X (some 75) (M_name_d.d 69 rfl) (Nat.le_of_ble_eq_true rfl) (Nat.le_of_ble_eq_true rfl) ⟨rfl, rfl⟩

set_option maxHeartbeats 4000000 in
set_option maxRecDepth 100000 in
theorem M_name34_m {l : Launch} {G : ax_G} {h : List va_E}  :
    AM l VV G M_name_y M_name_c 1 (some (.object "java/lang/String")) 0 0 0 [.int 34] (h) (fun v h' => v = some (.ref 76) ∧ h' = h) := by
  refine AM.of (pl := pl_M) (by decide) v_good fl_M_ok kl_M_ok nofun (Nat.le_of_ble_eq_true rfl) ?_
  intro p0v e0v s0v m0v args below meth c0v X
  refine AW.run X M_name_d 0 1 rfl ?_
  refine AW.tableIn X (M_name_d.d 1 rfl) (by decide) (by decide) (off := 278) (by decide) ?_
  refine AW.ldcS X (List.mem_of_getElem? (i := 9) rfl) (M_name_d.d 70 rfl) ?_
  exact AW.aret X (some 76) (M_name_d.d 71 rfl) (Nat.le_of_ble_eq_true rfl) (Nat.le_of_ble_eq_true rfl) ⟨rfl, rfl⟩

set_option maxHeartbeats 4000000 in
set_option maxRecDepth 100000 in
theorem M_name35_m {l : Launch} {G : ax_G} {h : List va_E}  :
    AM l VV G M_name_y M_name_c 1 (some (.object "java/lang/String")) 0 0 0 [.int 35] (h) (fun v h' => v = some (.ref 77) ∧ h' = h) := by
  refine AM.of (pl := pl_M) (by decide) v_good fl_M_ok kl_M_ok nofun (Nat.le_of_ble_eq_true rfl) ?_
  intro p0v e0v s0v m0v args below meth c0v X
  refine AW.run X M_name_d 0 1 rfl ?_
  refine AW.tableOut X (M_name_d.d 1 rfl) (by decide) ?_
  refine AW.ldcS X (List.mem_of_getElem? (i := 10) rfl) (M_name_d.d 72 rfl) ?_
  exact AW.aret X (some 77) (M_name_d.d 73 rfl) (Nat.le_of_ble_eq_true rfl) (Nat.le_of_ble_eq_true rfl) ⟨rfl, rfl⟩

theorem M_name_m {l : Launch} {G : ax_G} {h : List va_E} : ∀ k, k < 36 → AM l VV G M_name_y M_name_c 1 (some (.object "java/lang/String")) 0 0 0 [.int (nI k)] (h) (fun v h' => v = some (.ref (39 + nmc k)) ∧ h' = h)
  | 0, _ => M_name0_m
  | 1, _ => M_name1_m
  | 2, _ => M_name2_m
  | 3, _ => M_name3_m
  | 4, _ => M_name4_m
  | 5, _ => M_name5_m
  | 6, _ => M_name6_m
  | 7, _ => M_name7_m
  | 8, _ => M_name8_m
  | 9, _ => M_name9_m
  | 10, _ => M_name10_m
  | 11, _ => M_name11_m
  | 12, _ => M_name12_m
  | 13, _ => M_name13_m
  | 14, _ => M_name14_m
  | 15, _ => M_name15_m
  | 16, _ => M_name16_m
  | 17, _ => M_name17_m
  | 18, _ => M_name18_m
  | 19, _ => M_name19_m
  | 20, _ => M_name20_m
  | 21, _ => M_name21_m
  | 22, _ => M_name22_m
  | 23, _ => M_name23_m
  | 24, _ => M_name24_m
  | 25, _ => M_name25_m
  | 26, _ => M_name26_m
  | 27, _ => M_name27_m
  | 28, _ => M_name28_m
  | 29, _ => M_name29_m
  | 30, _ => M_name30_m
  | 31, _ => M_name31_m
  | 32, _ => M_name32_m
  | 33, _ => M_name33_m
  | 34, _ => M_name34_m
  | 35, _ => M_name35_m
  | k + 36, hk => absurd hk (by omega)

set_option maxHeartbeats 4000000 in
set_option maxRecDepth 100000 in
theorem M_nameOf_m {l : Launch} {G : ax_G} (S : x_S) (M : x_M) (tl : List va_E) (f w s e : Nat) (hf : f < 24) (hw : w < 402) (hb : M.2.1 11 w = nI s) (he : M.2.1 12 w = nI e) (hs : s ≤ e ∧ e ≤ 8192) :
    AM l VV G M_nameOf_y M_nameOf_c 4 (some .int) 5 0 0 [.ref 153, .int (nI f), .int (nI w)] (x_hM S M tl) (fun v h' => v = some (.int (iZ (nof (cw (sgM M f) s e)))) ∧ h' = x_hM S M tl) := by
  refine AM.of (pl := pl_M) (by decide) v_good fl_M_ok kl_M_ok nofun (Nat.le_of_ble_eq_true rfl) ?_
  intro p0v e0v s0v m0v args below meth c0v X
  refine AW.run X M_nameOf_d 0 2 rfl ?_
  have L2 : ∀ (t2 j : Nat), j ≤ 36 → (∀ k, k < j → nmc k ≠ cw (sgM M f) s e) → 36 - j < t2 → AW p0v l e0v (ax_R 5 0 0) s0v m0v args below meth c0v VV G 4 (x_hM S M tl) 0 0 (MQ below (ax_Q VV G (fun v h' => v = some (.int (iZ (nof (cw (sgM M f) s e)))) ∧ h' = x_hM S M tl)) args s0v 0 0 (fun q => G.bs ≤ q)) 2 [(3, .int (nI j)), (0, .ref 153), (1, .int (nI f)), (2, .int (nI w))] [] := by
    intro t2
    induction t2 with
    | zero => intro j h1 e1 h2; exact absurd h2 (by omega)
    | succ t2 ih =>
      intro j h1 e1 h2
      refine AW.run X M_nameOf_d 2 2 rfl ?_
      refine AW.icmp_ge X (M_nameOf_d.d 4 rfl) (fun q4 => ?_) (fun q4 => ?_)
      · refine AW.run X M_nameOf_d 16 1 rfl ?_
        exact AW.iret X (M_nameOf_d.d 17 rfl) (Nat.le_of_ble_eq_true rfl) (Nat.le_of_ble_eq_true rfl) ⟨by rw [nof_n (fun k hk => e1 k (by have := cge (a := j) (b := 36) q4 rfl (by decide); omega))]; rfl, rfl⟩
      · have hj : j < 36 := clt (b := 36) q4 rfl (by decide)
        have hc := nmc_l j hj
        refine AW.run X M_nameOf_d 5 4 rfl ?_
        refine AW.callS (As := [.int (nI j)]) X (M_name_m j hj) cb_M_299 M_name_st rfl ⟨Nat.le_of_ble_eq_true rfl, Nat.le_of_ble_eq_true rfl⟩ (Nat.le_of_ble_eq_true rfl) ⟨Nat.le_of_ble_eq_true rfl, Nat.le_of_ble_eq_true rfl⟩ (M_nameOf_d.d 9 rfl) (fun v h' q => ?_)
        obtain ⟨rfl, rfl⟩ := q
        refine AW.callV (As := [.int (nI f), .int (nI w), .ref (39 + nmc j)]) X (M_isWord_m S M tl f w (nmc j) s e hf hw hc.2 hb he hs) cb_M_188 rfl rfl M_isWord_im M_isWord_se rfl ⟨Nat.le_of_ble_eq_true rfl, Nat.le_of_ble_eq_true rfl⟩ (Nat.le_of_ble_eq_true rfl) ⟨Nat.le_of_ble_eq_true rfl, Nat.le_of_ble_eq_true rfl⟩ (M_nameOf_d.d 10 rfl) (fun v h' q => ?_)
        obtain ⟨rfl, rfl⟩ := q
        rw [cw_i hc.2]
        refine AW.if_eq X (M_nameOf_d.d 11 rfl) (fun q11 => ?_) (fun q11 => ?_)
        · refine AW.run X M_nameOf_d 14 1 rfl ?_
          refine AW.goto X (M_nameOf_d.d 15 rfl) ?_
          rw [nI_o1]
          exact ih (j + 1) (by omega) (fun k hk => by
            by_cases z : k = j
            · rw [z]; exact fun y => of_decide_eq_false ((bI_0 _).mp q11) y.symm
            · exact e1 k (by omega)) (by omega)
        · refine AW.run X M_nameOf_d 12 1 rfl ?_
          exact AW.iret X (M_nameOf_d.d 13 rfl) (Nat.le_of_ble_eq_true rfl) (Nat.le_of_ble_eq_true rfl) ⟨by rw [nof_k hj (of_decide_eq_true (Bool.of_not_eq_false (fun y => q11 ((bI_0 _).mpr y)))), iZ_n], rfl⟩
  exact L2 37 0 (by omega) (fun k hk => absurd hk (by omega)) (by omega)

