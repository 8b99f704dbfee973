/-! THE TEXTS of the words, and strings -/
section AXTX
variable {p : Program} {l : Launch} {e : Env} {R : Room} {s : State} {m : MethodId} {args : Array Value} {below : List Frame} {meth : Method} {c : Code} {V : ax_V} {G : ax_G} {cc : ByteArray} {nL : Nat} {own : String} {pl : ax_pool} {ret : Option FieldType} {cells slots : Nat} {Q : State → Prop}
variable {pc : Nat} {lv : List (Nat × Value)} {r : List Value} {h : List va_E} {a t n j : Nat} {i : Int32}
theorem AW.i2c (X : ax_X p m meth c s args V G cc nL own pl ret) {x v : Int32} (hv : (x.toUInt32 % 65536).toInt32 = v) (hd : decode cc pc = .ok (.i2c, 1)) (k : AW p l e R s m args below meth c V G nL h cells slots Q (pc + 1) lv (.int v :: r)) : AW p l e R s m args below meth c V G nL h cells slots Q pc lv (.int x :: r) := by
  intro H locs ls hH hl hw
  exact lv_i2c X.x X.b hd hv (k H locs ls hH hl hw)
theorem AW.tret {ty : FieldType} (X : ax_X p m meth c s args V G cc nL own pl (some ty)) {mc ms : Nat} {Qa : Option Value → List va_E → Prop} (hz : narrow ty (.int i) = .int i) (hd : decode cc pc = .ok (.ireturn, 1)) (h1 : cells ≤ mc) (h2 : slots ≤ ms) (hq : Qa (some (.int i)) h) : AW p l e R s m args below meth c V G nL h cells slots (MQ below (ax_Q V G Qa) args s mc ms (fun q => G.bs ≤ q)) pc lv [.int i] := by
  intro H locs ls hH hl hv
  refine W.widen h1 h2 ?_
  exact W.zret X.x X.b X.rt hz (fun t ht _ => ⟨some (.int i), h, rfl, hq, by rw [ht]; exact hH⟩) hl hd X.lk
end AXTX
def tx (i : Nat) : List Nat := TX.getD i []
theorem tx_e {i : Nat} (h : i < 39) : TX[i]'h = tx i := by unfold tx; rw [List.getD_eq_getElem?_getD, List.getElem?_eq_getElem (show i < TX.length from h)]; rfl
theorem tx_b : ∀ i, i < 39 → ∀ j, j < 8 → v_txb i j = nI ((tx i).getD j 0) ∧ (tx i).getD j 0 < 128 := by decide +kernel
theorem tx_l : ∀ i, i < 39 → (tx i).length ≤ 8 := by decide
theorem v_st : ∀ i, i < 39 → v_cst[39 + i]? = some (.inr (14, [.ref (90 + i), .int 0])) := by
  intro i hi
  match i, hi with
  | 0, _ => exact rfl
  | 1, _ => exact rfl
  | 2, _ => exact rfl
  | 3, _ => exact rfl
  | 4, _ => exact rfl
  | 5, _ => exact rfl
  | 6, _ => exact rfl
  | 7, _ => exact rfl
  | 8, _ => exact rfl
  | 9, _ => exact rfl
  | 10, _ => exact rfl
  | 11, _ => exact rfl
  | 12, _ => exact rfl
  | 13, _ => exact rfl
  | 14, _ => exact rfl
  | 15, _ => exact rfl
  | 16, _ => exact rfl
  | 17, _ => exact rfl
  | 18, _ => exact rfl
  | 19, _ => exact rfl
  | 20, _ => exact rfl
  | 21, _ => exact rfl
  | 22, _ => exact rfl
  | 23, _ => exact rfl
  | 24, _ => exact rfl
  | 25, _ => exact rfl
  | 26, _ => exact rfl
  | 27, _ => exact rfl
  | 28, _ => exact rfl
  | 29, _ => exact rfl
  | 30, _ => exact rfl
  | 31, _ => exact rfl
  | 32, _ => exact rfl
  | 33, _ => exact rfl
  | 34, _ => exact rfl
  | 35, _ => exact rfl
  | 36, _ => exact rfl
  | 37, _ => exact rfl
  | 38, _ => exact rfl
  | i + 39, hi => exact absurd hi (by omega)
theorem v_tam : ∀ i, i < 39 → (90 + i, FieldType.byte, (tx i).length, fun j => Value.int (v_txb i j)) ∈ VV.ta := by
  intro i hi
  match i, hi with
  | 0, _ => exact List.mem_of_getElem? (i := 2) rfl
  | 1, _ => exact List.mem_of_getElem? (i := 3) rfl
  | 2, _ => exact List.mem_of_getElem? (i := 4) rfl
  | 3, _ => exact List.mem_of_getElem? (i := 5) rfl
  | 4, _ => exact List.mem_of_getElem? (i := 6) rfl
  | 5, _ => exact List.mem_of_getElem? (i := 7) rfl
  | 6, _ => exact List.mem_of_getElem? (i := 8) rfl
  | 7, _ => exact List.mem_of_getElem? (i := 9) rfl
  | 8, _ => exact List.mem_of_getElem? (i := 10) rfl
  | 9, _ => exact List.mem_of_getElem? (i := 11) rfl
  | 10, _ => exact List.mem_of_getElem? (i := 12) rfl
  | 11, _ => exact List.mem_of_getElem? (i := 13) rfl
  | 12, _ => exact List.mem_of_getElem? (i := 14) rfl
  | 13, _ => exact List.mem_of_getElem? (i := 15) rfl
  | 14, _ => exact List.mem_of_getElem? (i := 16) rfl
  | 15, _ => exact List.mem_of_getElem? (i := 17) rfl
  | 16, _ => exact List.mem_of_getElem? (i := 18) rfl
  | 17, _ => exact List.mem_of_getElem? (i := 19) rfl
  | 18, _ => exact List.mem_of_getElem? (i := 20) rfl
  | 19, _ => exact List.mem_of_getElem? (i := 21) rfl
  | 20, _ => exact List.mem_of_getElem? (i := 22) rfl
  | 21, _ => exact List.mem_of_getElem? (i := 23) rfl
  | 22, _ => exact List.mem_of_getElem? (i := 24) rfl
  | 23, _ => exact List.mem_of_getElem? (i := 25) rfl
  | 24, _ => exact List.mem_of_getElem? (i := 26) rfl
  | 25, _ => exact List.mem_of_getElem? (i := 27) rfl
  | 26, _ => exact List.mem_of_getElem? (i := 28) rfl
  | 27, _ => exact List.mem_of_getElem? (i := 29) rfl
  | 28, _ => exact List.mem_of_getElem? (i := 30) rfl
  | 29, _ => exact List.mem_of_getElem? (i := 31) rfl
  | 30, _ => exact List.mem_of_getElem? (i := 32) rfl
  | 31, _ => exact List.mem_of_getElem? (i := 33) rfl
  | 32, _ => exact List.mem_of_getElem? (i := 34) rfl
  | 33, _ => exact List.mem_of_getElem? (i := 35) rfl
  | 34, _ => exact List.mem_of_getElem? (i := 36) rfl
  | 35, _ => exact List.mem_of_getElem? (i := 37) rfl
  | 36, _ => exact List.mem_of_getElem? (i := 38) rfl
  | 37, _ => exact List.mem_of_getElem? (i := 39) rfl
  | 38, _ => exact List.mem_of_getElem? (i := 40) rfl
  | i + 39, hi => exact absurd hi (by omega)
theorem i2c_b {c : Nat} (h : c < 128) : ((nI c &&& 255).toUInt32 % 65536).toInt32 = nI c := by
  have : ∀ c, c < 128 → ((nI c &&& 255).toUInt32 % 65536).toInt32 = nI c := by decide +kernel
  exact this c h
theorem sh0 (x : Int32) : x >>> ((0 : Int32) &&& 31) = x := by
  apply Int32.toBitVec_inj.mp
  rw [Int32.toBitVec_shiftRight, BitVec.sshiftRight_eq', show (((0 : Int32) &&& 31).toBitVec.smod 32).toNat = 0 by decide, BitVec.sshiftRight_zero]
theorem nar_c {c : Nat} (h : c < 128) : narrow .char (.int (nI c)) = .int (nI c) := by
  have : ∀ c, c < 128 → narrow .char (.int (nI c)) = .int (nI c) := by decide +kernel
  exact this c h
theorem by_c {x : Int32} {c : Nat} (hx : x.toInt8.toInt32 = x) (hc : c < 128) : x = nI c ↔ sgn x = c := by
  constructor
  · intro h
    subst h
    unfold sgn
    have : ∀ c, c < 128 → (nI c).toBitVec.toNat % 256 = c := by decide +kernel
    exact this c hc
  · intro h
    rw [← hx]
    have e : x.toInt8 = Int8.ofNat c := by
      apply Int8.toBitVec_inj.mp
      apply BitVec.eq_of_toNat_eq
      show (x.toBitVec.signExtend 8).toNat = (BitVec.ofNat 8 c).toNat
      rw [BitVec.signExtend_eq_setWidth_of_le _ (by decide), BitVec.toNat_setWidth, BitVec.toNat_ofNat]
      unfold sgn at h
      rw [show (2 : Nat) ^ 8 = 256 from rfl]
      omega
    rw [e]
    have : ∀ c, c < 128 → (Int8.ofNat c).toInt32 = nI c := by decide +kernel
    exact this c hc
theorem txe_n {sg : Nat → Nat} {t : List Nat} {s k : Nat} (hk : k < t.length) (h : sg (s + k) ≠ t.getD k 0) : txe sg t s = false := by
  apply Bool.eq_false_iff.mpr
  intro z
  have := txe_get.mp z k hk
  rw [List.getD_eq_getElem?_getD, List.getElem?_eq_getElem hk] at h
  exact h this
theorem txe_y {sg : Nat → Nat} {t : List Nat} {s : Nat} (h : ∀ k, k < t.length → sg (s + k) = t.getD k 0) : txe sg t s = true := by
  rw [txe_get]
  intro k hk
  rw [h k hk, List.getD_eq_getElem?_getD, List.getElem?_eq_getElem hk]
  rfl
theorem cw_39 {sg : Nat → Nat} {s e : Nat} (h : ∀ j, j < 39 → isT sg s e (tx j) = false) : cw sg s e = 39 := by
  apply Classical.byContradiction
  intro z
  have l : cw sg s e < 39 := by have := cw_le sg s e; omega
  have := cw_is l
  rw [tx_e l, h _ l] at this
  exact absurd this (by decide)
theorem cw_i {sg : Nat → Nat} {s e k : Nat} (hk : k < 39) : isT sg s e (tx k) = decide (cw sg s e = k) := by rw [← tx_e hk]; exact cw_iff hk
theorem isT_l {sg : Nat → Nat} {s e : Nat} {t : List Nat} (h : ¬t.length = e - s) : isT sg s e t = false := by unfold isT; rw [decide_eq_false h]; rfl
theorem isT_t {sg : Nat → Nat} {s e : Nat} {t : List Nat} (h : t.length = e - s) : isT sg s e t = txe sg t s := by unfold isT; rw [decide_eq_true h]; rfl
set_option maxHeartbeats 4000000 in
set_option maxRecDepth 100000 in
theorem JString_coder_m {l : Launch} {G : ax_G} {h : List va_E} (i : Nat) (hs : h[39 + i]? = some (.inr (14, [.ref (90 + i), .int 0]))) :
    AM l VV G JString_coder_y JString_coder_c 1 (some .byte) 0 0 0 [.ref (39 + i)] (h) (fun v h' => v = some (.int 0) ∧ h' = h) := by
  refine AM.ofF (pl := pl_JString) JString_coder_pf v_good fl_JString_ok kl_JString_ok nofun (Nat.le_of_ble_eq_true rfl) ?_
  intro p0v e0v s0v m0v args below meth c0v X
  refine AW.gets X gs_JString_38.1 gs_JString_38.2 (JString_coder_d.d 0 rfl) ?_
  refine AW.if_eq X (JString_coder_d.d 1 rfl) (fun q1 => absurd q1 (by decide)) (fun q1 => ?_)
  refine AW.run X JString_coder_d 2 1 rfl ?_
  refine AW.get X hs rfl rfl (JString_coder_d.d 3 rfl) ?_
  refine AW.goto X (JString_coder_d.d 4 rfl) ?_
  exact AW.tret X (by decide) (JString_coder_d.d 6 rfl) (Nat.le_of_ble_eq_true rfl) (Nat.le_of_ble_eq_true rfl) ⟨rfl, rfl⟩

set_option maxHeartbeats 4000000 in
set_option maxRecDepth 100000 in
theorem JString_isLatin1_m {l : Launch} {G : ax_G} {h : List va_E} (i : Nat) (hs : h[39 + i]? = some (.inr (14, [.ref (90 + i), .int 0]))) :
    AM l VV G JString_isLatin1_y JString_isLatin1_c 1 (some .boolean) 0 0 0 [.ref (39 + i)] (h) (fun v h' => v = some (.int (Int32.ofInt 1)) ∧ h' = h) := by
  refine AM.ofF (pl := pl_JString) JString_isLatin1_pf v_good fl_JString_ok kl_JString_ok nofun (Nat.le_of_ble_eq_true rfl) ?_
  intro p0v e0v s0v m0v args below meth c0v X
  refine AW.gets X gs_JString_38.1 gs_JString_38.2 (JString_isLatin1_d.d 0 rfl) ?_
  refine AW.if_eq X (JString_isLatin1_d.d 1 rfl) (fun q1 => absurd q1 (by decide)) (fun q1 => ?_)
  refine AW.run X JString_isLatin1_d 2 1 rfl ?_
  refine AW.get X hs rfl rfl (JString_isLatin1_d.d 3 rfl) ?_
  refine AW.if_ne X (JString_isLatin1_d.d 4 rfl) (fun q4 => absurd rfl q4) (fun q4 => ?_)
  refine AW.run X JString_isLatin1_d 5 1 rfl ?_
  refine AW.goto X (JString_isLatin1_d.d 6 rfl) ?_
  exact AW.zret X (by first | exact n_0 | exact n_1 | exact bI_nar _) (JString_isLatin1_d.d 8 rfl) (Nat.le_of_ble_eq_true rfl) (Nat.le_of_ble_eq_true rfl) ⟨rfl, rfl⟩

set_option maxHeartbeats 4000000 in
set_option maxRecDepth 100000 in
theorem JString_length_m {l : Launch} {G : ax_G} {h : List va_E} (i : Nat) (hi : i < 39) (hs : h[39 + i]? = some (.inr (14, [.ref (90 + i), .int 0]))) :
    AM l VV G JString_length_y JString_length_c 1 (some .int) 1 0 0 [.ref (39 + i)] (h) (fun v h' => v = some (.int (nI (tx i).length)) ∧ h' = h) := by
  refine AM.ofF (pl := pl_JString) JString_length_pf v_good fl_JString_ok kl_JString_ok nofun (Nat.le_of_ble_eq_true rfl) ?_
  intro p0v e0v s0v m0v args below meth c0v X
  refine AW.run X JString_length_d 0 1 rfl ?_
  refine AW.get X hs rfl rfl (JString_length_d.d 1 rfl) ?_
  refine AW.talen X (v_tam i hi) (JString_length_d.d 2 rfl) ?_
  refine AW.run X JString_length_d 3 1 rfl ?_
  refine AW.callV (As := []) X (JString_coder_m i hs) cb_JString_335 hs rfl JString_coder_im JString_coder_se rfl ⟨Nat.le_of_ble_eq_true rfl, Nat.le_of_ble_eq_true rfl⟩ (Nat.le_of_ble_eq_true rfl) ⟨Nat.le_of_ble_eq_true rfl, Nat.le_of_ble_eq_true rfl⟩ (JString_length_d.d 4 rfl) (fun v h' q => ?_)
  obtain ⟨rfl, e9⟩ := q
  rw [e9]
  clear e9
  refine AW.run X JString_length_d 5 1 rfl ?_
  exact AW.iret X (JString_length_d.d 6 rfl) (Nat.le_of_ble_eq_true rfl) (Nat.le_of_ble_eq_true rfl) ⟨by rw [sh0], rfl⟩

set_option maxHeartbeats 4000000 in
set_option maxRecDepth 100000 in
theorem JPreconditions_checkIndex_m {l : Launch} {G : ax_G} {h : List va_E} (k n x : Nat) (hk : k < n) (hn : n < 2 ^ 31) :
    AM l VV G JPreconditions_checkIndex_y JPreconditions_checkIndex_c 3 (some .int) 0 0 0 [.int (nI k), .int (nI n), .ref x] (h) (fun v h' => v = some (.int (nI k)) ∧ h' = h) := by
  refine AM.ofF (pl := pl_JPreconditions) JPreconditions_checkIndex_pf v_good fl_JPreconditions_ok kl_JPreconditions_ok nofun (Nat.le_of_ble_eq_true rfl) ?_
  intro p0v e0v s0v m0v args below meth c0v X
  refine AW.run X JPreconditions_checkIndex_d 0 1 rfl ?_
  refine AW.if_lt X (JPreconditions_checkIndex_d.d 1 rfl) (fun q1 => absurd q1 (nI_pos (by omega))) (fun q1 => ?_)
  refine AW.run X JPreconditions_checkIndex_d 2 2 rfl ?_
  refine AW.icmp_lt X (JPreconditions_checkIndex_d.d 4 rfl) (fun q4 => ?_) (fun q4 => absurd (nI_lt hk hn) q4)
  refine AW.run X JPreconditions_checkIndex_d 10 1 rfl ?_
  exact AW.iret X (JPreconditions_checkIndex_d.d 11 rfl) (Nat.le_of_ble_eq_true rfl) (Nat.le_of_ble_eq_true rfl) ⟨rfl, rfl⟩

set_option maxHeartbeats 4000000 in
set_option maxRecDepth 100000 in
theorem JPreconditions_checkIndex_n {l : Launch} {G : ax_G} {h : List va_E} (k n : Nat) (hk : k < n) (hn : n < 2 ^ 31) :
    AM l VV G JPreconditions_checkIndex_y JPreconditions_checkIndex_c 3 (some .int) 0 0 0 [.int (nI k), .int (nI n), .null] (h) (fun v h' => v = some (.int (nI k)) ∧ h' = h) := by
  refine AM.ofF (pl := pl_JPreconditions) JPreconditions_checkIndex_pf v_good fl_JPreconditions_ok kl_JPreconditions_ok nofun (Nat.le_of_ble_eq_true rfl) ?_
  intro p0v e0v s0v m0v args below meth c0v X
  refine AW.run X JPreconditions_checkIndex_d 0 1 rfl ?_
  refine AW.if_lt X (JPreconditions_checkIndex_d.d 1 rfl) (fun q1 => absurd q1 (nI_pos (by omega))) (fun q1 => ?_)
  refine AW.run X JPreconditions_checkIndex_d 2 2 rfl ?_
  refine AW.icmp_lt X (JPreconditions_checkIndex_d.d 4 rfl) (fun q4 => ?_) (fun q4 => absurd (nI_lt hk hn) q4)
  refine AW.run X JPreconditions_checkIndex_d 10 1 rfl ?_
  exact AW.iret X (JPreconditions_checkIndex_d.d 11 rfl) (Nat.le_of_ble_eq_true rfl) (Nat.le_of_ble_eq_true rfl) ⟨rfl, rfl⟩

set_option maxHeartbeats 4000000 in
set_option maxRecDepth 100000 in
theorem JString_checkIndex_m {l : Launch} {G : ax_G} {h : List va_E} (k n : Nat) (hk : k < n) (hn : n < 2 ^ 31) :
    AM l VV G JString_checkIndex_y JString_checkIndex_c 2 none 1 0 0 [.int (nI k), .int (nI n)] (h) (fun v h' => v = none ∧ h' = h) := by
  refine AM.ofF (pl := pl_JString) JString_checkIndex_pf v_good fl_JString_ok kl_JString_ok nofun (Nat.le_of_ble_eq_true rfl) ?_
  intro p0v e0v s0v m0v args below meth c0v X
  refine AW.run X JString_checkIndex_d 0 2 rfl ?_
  refine AW.getsE X gs_JString_1053 (JString_checkIndex_d.d 2 rfl) ?_ (fun x => ?_)
  · refine AW.callS (As := [.int (nI k), .int (nI n), .null]) X (JPreconditions_checkIndex_n k n hk hn) cb_JString_1059 JPreconditions_checkIndex_st rfl ⟨Nat.le_of_ble_eq_true rfl, Nat.le_of_ble_eq_true rfl⟩ (Nat.le_of_ble_eq_true rfl) ⟨Nat.le_of_ble_eq_true rfl, Nat.le_of_ble_eq_true rfl⟩ (JString_checkIndex_d.d 3 rfl) (fun v h' q => ?_)
    obtain ⟨rfl, e9⟩ := q
    rw [e9]
    clear e9
    refine AW.run X JString_checkIndex_d 4 1 rfl ?_
    exact AW.vret X (JString_checkIndex_d.d 5 rfl) (Nat.le_of_ble_eq_true rfl) (Nat.le_of_ble_eq_true rfl) ⟨rfl, rfl⟩
  · refine AW.callS (As := [.int (nI k), .int (nI n), .ref x]) X (JPreconditions_checkIndex_m k n x hk hn) cb_JString_1059 JPreconditions_checkIndex_st rfl ⟨Nat.le_of_ble_eq_true rfl, Nat.le_of_ble_eq_true rfl⟩ (Nat.le_of_ble_eq_true rfl) ⟨Nat.le_of_ble_eq_true rfl, Nat.le_of_ble_eq_true rfl⟩ (JString_checkIndex_d.d 3 rfl) (fun v h' q => ?_)
    obtain ⟨rfl, e9⟩ := q
    rw [e9]
    clear e9
    refine AW.run X JString_checkIndex_d 4 1 rfl ?_
    exact AW.vret X (JString_checkIndex_d.d 5 rfl) (Nat.le_of_ble_eq_true rfl) (Nat.le_of_ble_eq_true rfl) ⟨rfl, rfl⟩

set_option maxHeartbeats 4000000 in
set_option maxRecDepth 100000 in
theorem JStringLatin1_charAt_m {l : Launch} {G : ax_G} {h : List va_E} (i k : Nat) (hi : i < 39) (hk : k < (tx i).length) :
    AM l VV G JStringLatin1_charAt_y JStringLatin1_charAt_c 2 (some .char) 2 0 0 [.ref (90 + i), .int (nI k)] (h) (fun v h' => v = some (.int (nI ((tx i).getD k 0))) ∧ h' = h) := by
  refine AM.ofF (pl := pl_JStringLatin1) JStringLatin1_charAt_pf v_good fl_JStringLatin1_ok kl_JStringLatin1_ok nofun (Nat.le_of_ble_eq_true rfl) ?_
  intro p0v e0v s0v m0v args below meth c0v X
  refine AW.run X JStringLatin1_charAt_d 0 2 rfl ?_
  refine AW.talen X (v_tam i hi) (JStringLatin1_charAt_d.d 2 rfl) ?_
  refine AW.callS (As := [.int (nI k), .int (nI (tx i).length)]) X (JString_checkIndex_m k (tx i).length hk (by have := tx_l i hi; omega)) cb_JStringLatin1_9 JString_checkIndex_st rfl ⟨Nat.le_of_ble_eq_true rfl, Nat.le_of_ble_eq_true rfl⟩ (Nat.le_of_ble_eq_true rfl) ⟨Nat.le_of_ble_eq_true rfl, Nat.le_of_ble_eq_true rfl⟩ (JStringLatin1_charAt_d.d 3 rfl) (fun v h' q => ?_)
  obtain ⟨rfl, e9⟩ := q
  rw [e9]
  clear e9
  refine AW.run X JStringLatin1_charAt_d 4 2 rfl ?_
  refine AW.tbald (j := k) X (v_tam i hi) rfl hk (by have := tx_l i hi; omega) (JStringLatin1_charAt_d.d 6 rfl) ?_
  have hb := tx_b i hi k (by have := tx_l i hi; omega)
  rw [hb.1]
  refine AW.run X JStringLatin1_charAt_d 7 2 rfl ?_
  refine AW.i2c X (i2c_b hb.2) (JStringLatin1_charAt_d.d 9 rfl) ?_
  exact AW.tret X (nar_c hb.2) (JStringLatin1_charAt_d.d 10 rfl) (Nat.le_of_ble_eq_true rfl) (Nat.le_of_ble_eq_true rfl) ⟨rfl, rfl⟩

set_option maxHeartbeats 4000000 in
set_option maxRecDepth 100000 in
theorem JString_charAt_m {l : Launch} {G : ax_G} {h : List va_E} (i k : Nat) (hi : i < 39) (hk : k < (tx i).length) (hs : h[39 + i]? = some (.inr (14, [.ref (90 + i), .int 0]))) :
    AM l VV G JString_charAt_y JString_charAt_c 2 (some .char) 3 0 0 [.ref (39 + i), .int (nI k)] (h) (fun v h' => v = some (.int (nI ((tx i).getD k 0))) ∧ h' = h) := by
  refine AM.ofF (pl := pl_JString) JString_charAt_pf v_good fl_JString_ok kl_JString_ok nofun (Nat.le_of_ble_eq_true rfl) ?_
  intro p0v e0v s0v m0v args below meth c0v X
  refine AW.run X JString_charAt_d 0 1 rfl ?_
  refine AW.callV (As := []) X (JString_isLatin1_m i hs) cb_JString_492 hs rfl JString_isLatin1_im JString_isLatin1_se rfl ⟨Nat.le_of_ble_eq_true rfl, Nat.le_of_ble_eq_true rfl⟩ (Nat.le_of_ble_eq_true rfl) ⟨Nat.le_of_ble_eq_true rfl, Nat.le_of_ble_eq_true rfl⟩ (JString_charAt_d.d 1 rfl) (fun v h' q => ?_)
  obtain ⟨rfl, e9⟩ := q
  rw [e9]
  clear e9
  refine AW.if_eq X (JString_charAt_d.d 2 rfl) (fun q2 => absurd q2 (by decide)) (fun q2 => ?_)
  refine AW.run X JString_charAt_d 3 1 rfl ?_
  refine AW.get X hs rfl rfl (JString_charAt_d.d 4 rfl) ?_
  refine AW.run X JString_charAt_d 5 1 rfl ?_
  refine AW.callS (As := [.ref (90 + i), .int (nI k)]) X (JStringLatin1_charAt_m i k hi hk) cb_JString_495 JStringLatin1_charAt_st rfl ⟨Nat.le_of_ble_eq_true rfl, Nat.le_of_ble_eq_true rfl⟩ (Nat.le_of_ble_eq_true rfl) ⟨Nat.le_of_ble_eq_true rfl, Nat.le_of_ble_eq_true rfl⟩ (JString_charAt_d.d 6 rfl) (fun v h' q => ?_)
  obtain ⟨rfl, e9⟩ := q
  rw [e9]
  clear e9
  exact AW.tret X (nar_c (tx_b i hi k (by have := tx_l i hi; omega)).2) (JString_charAt_d.d 7 rfl) (Nat.le_of_ble_eq_true rfl) (Nat.le_of_ble_eq_true rfl) ⟨rfl, rfl⟩

set_option maxHeartbeats 4000000 in
set_option maxRecDepth 100000 in
theorem O_isAt_m {l : Launch} {G : ax_G} (S : x_S) (tl : List va_E) (w s e n : Nat) (hw : w < 39) (hl : (tx w).length = e - s) (hs : s ≤ e ∧ e ≤ n ∧ n ≤ 8192) (hB : ∀ j, j < n → (S.2.1 0 j).toInt8.toInt32 = S.2.1 0 j) :
    AM l VV G O_isAt_y O_isAt_c 4 (some .boolean) 4 0 0 [.ref w, .ref 133, .int (nI s)] (x_hC S tl) (fun v h' => v = some (.int (bI (txe (sgS S) (tx w) s))) ∧ h' = x_hC S tl) := by
  refine AM.of (pl := pl_O) (by decide) v_good fl_O_ok kl_O_ok nofun (Nat.le_of_ble_eq_true rfl) ?_
  intro p0v e0v s0v m0v args below meth c0v X
  obtain ⟨kk, hkk⟩ := v_wg w hw
  have h8 := tx_l w hw
  refine AW.run X O_isAt_d 0 2 rfl ?_
  have L2 : ∀ (t2 j : Nat), j ≤ (tx w).length → (∀ k, k < j → sgS S (s + k) = (tx w).getD k 0) → (tx w).length - j < t2 → AW p0v l e0v (ax_R 4 0 0) s0v m0v args below meth c0v VV G 4 (x_hC S tl) 0 0 (MQ below (ax_Q VV G (fun v h' => v = some (.int (bI (txe (sgS S) (tx w) s))) ∧ h' = x_hC S tl)) args s0v 0 0 (fun q => G.bs ≤ q)) 2 [(3, .int (nI j)), (0, .ref w), (1, .ref 133), (2, .int (nI s))] [] := by
    intro t2
    induction t2 with
    | zero => intro j h1 e1 h2; exact absurd h2 (by omega)
    | succ t2 ih =>
      intro j h1 e1 h2
      refine AW.run X O_isAt_d 2 2 rfl ?_
      refine AW.get X ((x_at _ tl (by omega)).trans hkk) rfl rfl (O_isAt_d.d 4 rfl) ?_
      refine AW.callV (As := []) X (JString_length_m w hw ((x_at _ tl (by omega)).trans (v_st w hw))) cb_O_156 ((x_at _ tl (by omega)).trans (v_st w hw)) rfl JString_length_im JString_length_se rfl ⟨Nat.le_of_ble_eq_true rfl, Nat.le_of_ble_eq_true rfl⟩ (Nat.le_of_ble_eq_true rfl) ⟨Nat.le_of_ble_eq_true rfl, Nat.le_of_ble_eq_true rfl⟩ (O_isAt_d.d 5 rfl) (fun v h' q => ?_)
      obtain ⟨rfl, rfl⟩ := q
      refine AW.icmp_ge X (O_isAt_d.d 6 rfl) (fun q6 => ?_) (fun q6 => ?_)
      · refine AW.run X O_isAt_d 21 1 rfl ?_
        exact AW.zret X (by first | exact n_0 | exact n_1 | exact bI_nar _) (O_isAt_d.d 22 rfl) (Nat.le_of_ble_eq_true rfl) (Nat.le_of_ble_eq_true rfl) ⟨by rw [txe_y (fun k hk => e1 k (by have := cge q6; omega))]; rfl, rfl⟩
      · have hj : j < (tx w).length := clt q6
        have hb := tx_b w hw j (by omega)
        refine AW.run X O_isAt_d 7 4 rfl ?_
        refine AW.cl0 (j := s + j) X (nI_add s j) (by omega) (O_isAt_d.d 11 rfl) ?_
        refine AW.run X O_isAt_d 12 1 rfl ?_
        refine AW.get X ((x_at _ tl (by omega)).trans hkk) rfl rfl (O_isAt_d.d 13 rfl) ?_
        refine AW.run X O_isAt_d 14 1 rfl ?_
        refine AW.callV (As := [.int (nI j)]) X (JString_charAt_m w j hw hj ((x_at _ tl (by omega)).trans (v_st w hw))) cb_O_166 ((x_at _ tl (by omega)).trans (v_st w hw)) rfl JString_charAt_im JString_charAt_se rfl ⟨Nat.le_of_ble_eq_true rfl, Nat.le_of_ble_eq_true rfl⟩ (Nat.le_of_ble_eq_true rfl) ⟨Nat.le_of_ble_eq_true rfl, Nat.le_of_ble_eq_true rfl⟩ (O_isAt_d.d 15 rfl) (fun v h' q => ?_)
        obtain ⟨rfl, rfl⟩ := q
        refine AW.icmp_eq X (O_isAt_d.d 16 rfl) (fun q16 => ?_) (fun q16 => ?_)
        · refine AW.run X O_isAt_d 19 1 rfl ?_
          refine AW.goto X (O_isAt_d.d 20 rfl) ?_
          rw [nI_o1]
          exact ih (j + 1) (by omega) (fun k hk => by
            by_cases z : k = j
            · rw [z]; exact (by_c (hB (s + j) (by omega)) hb.2).mp q16
            · exact e1 k (by omega)) (by omega)
        · refine AW.run X O_isAt_d 17 1 rfl ?_
          exact AW.zret X (by first | exact n_0 | exact n_1 | exact bI_nar _) (O_isAt_d.d 18 rfl) (Nat.le_of_ble_eq_true rfl) (Nat.le_of_ble_eq_true rfl) ⟨by rw [txe_n hj (fun z => q16 ((by_c (hB (s + j) (by omega)) hb.2).mpr z))]; rfl, rfl⟩
  exact L2 ((tx w).length + 1) 0 (by omega) (fun k hk => absurd hk (by omega)) (by omega)

set_option maxHeartbeats 4000000 in
set_option maxRecDepth 100000 in
theorem O_spelled_m {l : Launch} {G : ax_G} (S : x_S) (tl : List va_E) (s e n : Nat) (hs : s < e ∧ e ≤ n ∧ n ≤ 8192) (hB : ∀ j, j < n → (S.2.1 0 j).toInt8.toInt32 = S.2.1 0 j) :
    AM l VV G O_spelled_y O_spelled_c 7 (some (.object "NumberFunctions$Word")) 5 0 0 [.ref 133, .int (nI s), .int (nI e)] (x_hC S tl) (fun v h' => v = some (va_rf (if cw (sgS S) s e = 39 then none else some (cw (sgS S) s e))) ∧ h' = x_hC S tl) := by
  refine AM.of (pl := pl_O) (by decide) v_good fl_O_ok kl_O_ok nofun (Nat.le_of_ble_eq_true rfl) ?_
  intro p0v e0v s0v m0v args below meth c0v X
  refine AW.gets X gs_O_153.1 gs_O_153.2 (O_spelled_d.d 0 rfl) ?_
  refine AW.run X O_spelled_d 1 2 rfl ?_
  refine AW.talen X (List.mem_of_getElem? (i := 0) rfl) (O_spelled_d.d 3 rfl) ?_
  refine AW.run X O_spelled_d 4 3 rfl ?_
  have L11 : ∀ (t2 j : Nat), j ≤ 39 → (∀ k, k < j → isT (sgS S) s e (tx k) = false) → 39 - j < t2 → AW p0v l e0v (ax_R 5 0 0) s0v m0v args below meth c0v VV G 7 (x_hC S tl) 0 0 (MQ below (ax_Q VV G (fun v h' => v = some (va_rf (if cw (sgS S) s e = 39 then none else some (cw (sgS S) s e))) ∧ h' = x_hC S tl)) args s0v 0 0 (fun q => G.bs ≤ q)) 11 [(5, .int (nI j)), (4, .int (nI 39)), (3, .ref 87), (0, .ref 133), (1, .int (nI s)), (2, .int (nI e))] [] := by
    intro t2
    induction t2 with
    | zero => intro j h1 e1 h2; exact absurd h2 (by omega)
    | succ t2 ih =>
      intro j h1 e1 h2
      refine AW.run X O_spelled_d 7 2 rfl ?_
      refine AW.icmp_ge X (O_spelled_d.d 9 rfl) (fun q9 => ?_) (fun q9 => ?_)
      · refine AW.run X O_spelled_d 30 1 rfl ?_
        exact AW.aret X none (O_spelled_d.d 31 rfl) (Nat.le_of_ble_eq_true rfl) (Nat.le_of_ble_eq_true rfl) ⟨by rw [if_pos (cw_39 (fun k hk => e1 k (by have := cge q9; omega)))], rfl⟩
      · have hw : j < 39 := clt q9
        obtain ⟨kk, hkk⟩ := v_wg j hw
        have h8 := tx_l j hw
        refine AW.run X O_spelled_d 10 2 rfl ?_
        refine AW.taald (j := j) X (List.mem_of_getElem? (i := 0) rfl) rfl hw (by decide) (O_spelled_d.d 12 rfl) ?_
        refine AW.run X O_spelled_d 13 2 rfl ?_
        refine AW.get X ((x_at _ tl (by omega)).trans hkk) rfl rfl (O_spelled_d.d 15 rfl) ?_
        refine AW.callV (As := []) X (JString_length_m j hw ((x_at _ tl (by omega)).trans (v_st j hw))) cb_O_156 ((x_at _ tl (by omega)).trans (v_st j hw)) rfl JString_length_im JString_length_se rfl ⟨Nat.le_of_ble_eq_true rfl, Nat.le_of_ble_eq_true rfl⟩ (Nat.le_of_ble_eq_true rfl) ⟨Nat.le_of_ble_eq_true rfl, Nat.le_of_ble_eq_true rfl⟩ (O_spelled_d.d 16 rfl) (fun v h' q => ?_)
        obtain ⟨rfl, rfl⟩ := q
        refine AW.run X O_spelled_d 17 3 rfl ?_
        refine AW.icmp_ne X (O_spelled_d.d 20 rfl) (fun q20 => ?_) (fun q20 => ?_)
        · refine AW.run X O_spelled_d 28 1 rfl ?_
          refine AW.goto X (O_spelled_d.d 29 rfl) ?_
          refine AW.pk [0, 2, 3, 4, 5, 6] rfl ?_
          rw [nI_o1]
          exact ih (j + 1) (by omega) (fun k hk => by
            by_cases z : k = j
            · rw [z]; exact isT_l (fun y => q20 (by rw [pk_sub (by omega), y]))
            · exact e1 k (by omega)) (by omega)
        · have hlen : (tx j).length = e - s := (nI_eq (by omega) (by omega)).mp (by rw [← pk_sub (by omega)]; exact q20)
          refine AW.run X O_spelled_d 21 3 rfl ?_
          refine AW.callV (As := [.ref 133, .int (nI s)]) X (O_isAt_m S tl j s e n hw hlen ⟨by omega, by omega, by omega⟩ hB) cb_O_162 ((x_at _ tl (by omega)).trans hkk) rfl O_isAt_im O_isAt_se rfl ⟨Nat.le_of_ble_eq_true rfl, Nat.le_of_ble_eq_true rfl⟩ (Nat.le_of_ble_eq_true rfl) ⟨Nat.le_of_ble_eq_true rfl, Nat.le_of_ble_eq_true rfl⟩ (O_spelled_d.d 24 rfl) (fun v h' q => ?_)
          obtain ⟨rfl, rfl⟩ := q
          refine AW.if_eq X (O_spelled_d.d 25 rfl) (fun q25 => ?_) (fun q25 => ?_)
          · refine AW.run X O_spelled_d 28 1 rfl ?_
            refine AW.goto X (O_spelled_d.d 29 rfl) ?_
            refine AW.pk [0, 2, 3, 4, 5, 6] rfl ?_
            rw [nI_o1]
            exact ih (j + 1) (by omega) (fun k hk => by
              by_cases z : k = j
              · rw [z, isT_t hlen]; exact (bI_0 _).mp q25
              · exact e1 k (by omega)) (by omega)
          · have htx : txe (sgS S) (tx j) s = true := Bool.of_not_eq_false (fun y => q25 ((bI_0 _).mpr y))
            refine AW.run X O_spelled_d 26 1 rfl ?_
            exact AW.aret X (some j) (O_spelled_d.d 27 rfl) (Nat.le_of_ble_eq_true rfl) (Nat.le_of_ble_eq_true rfl) ⟨by rw [cw_of hw (by rw [tx_e hw, isT_t hlen]; exact htx), if_neg (by omega)], rfl⟩
  exact L11 40 0 (by omega) (fun k hk => absurd hk (by omega)) (by omega)

