/-! A WORD IS TAKEN; A ROW IS READ -/
theorem perr_5 {sg : Nat → Nat} {P : pP} {s e : Nat} (h : 400 ≤ qn P) : perr sg P s e = 5 := if_pos h
theorem perr_7 {sg : Nat → Nat} {P : pP} {s e : Nat} (h : qn P < 400) (g : pmis P (cw sg s e)) : perr sg P s e = 7 := (if_neg (by omega)).trans (if_pos (dc_t g))
theorem perr_6 {sg : Nat → Nat} {P : pP} {s e : Nat} (h : qn P < 400) (g : ¬pmis P (cw sg s e)) (k : cw sg s e = 0 ∧ 12 ≤ qd P) : perr sg P s e = 6 := (if_neg (by omega)).trans ((if_neg (by rw [dc_f g]; decide)).trans (if_pos k))
theorem perr_n {sg : Nat → Nat} {P : pP} {s e : Nat} (h : qn P < 400) (g : ¬pmis P (cw sg s e)) (k : cw sg s e = 39) : perr sg P s e = nr sg s e := (if_neg (by omega)).trans ((if_neg (by rw [dc_f g]; decide)).trans ((if_neg (by omega)).trans (if_pos k)))
theorem perr_m {sg : Nat → Nat} {P : pP} {s e : Nat} (h : qn P < 400) (g : ¬pmis P (cw sg s e)) (k : cw sg s e ≠ 39) (d : cw sg s e = 0 → qd P < 12) : perr sg P s e = -1 := (if_neg (by omega)).trans ((if_neg (by rw [dc_f g]; decide)).trans ((if_neg (by omega)).trans (if_neg k)))
theorem nr_b (sg : Nat → Nat) (s e : Nat) : nr sg s e = 4 ∨ nr sg s e = 3 ∨ nr sg s e = -1 := by
  unfold nr; split
  · exact Or.inl rfl
  · split
    · exact Or.inr (Or.inl rfl)
    · exact Or.inr (Or.inr rfl)
theorem perr_b (sg : Nat → Nat) (P : pP) (s e : Nat) : perr sg P s e = -1 ∨ (3 ≤ perr sg P s e ∧ perr sg P s e ≤ 7) := by
  unfold perr; split
  · exact Or.inr ⟨by decide, by decide⟩
  · split
    · exact Or.inr ⟨by decide, by decide⟩
    · split
      · exact Or.inr ⟨by decide, by decide⟩
      · split
        · have := nr_b sg s e; omega
        · exact Or.inl rfl
theorem perr_i {sg : Nat → Nat} {P : pP} {s e : Nat} : iZ (perr sg P s e) = Int32.ofInt (-1) ↔ perr sg P s e = -1 := iZ_eq (b := -1) (by have := perr_b sg P s e; exact ⟨by omega, by omega⟩) ⟨by decide, by decide⟩
theorem nr_i {sg : Nat → Nat} {s e : Nat} : iZ (nr sg s e) = Int32.ofInt (-1) ↔ nr sg s e = -1 := iZ_eq (b := -1) (by have := nr_b sg s e; exact ⟨by omega, by omega⟩) ⟨by decide, by decide⟩
def tn (x : Int32) : Nat := x.toBitVec.toNat
theorem tn_i (x : Int32) : x = nI (tn x) := by
  apply Int32.toBitVec_inj.mp
  show x.toBitVec = BitVec.ofNat 32 x.toBitVec.toNat
  rw [BitVec.ofNat_toNat, BitVec.setWidth_eq]
theorem ti_i (x : Int32) : x = iZ x.toInt := (Int32.ofInt_toInt x).symm
/-- what the reader begins with: nothing read; what else lies in its arrays doesn't matter -/
def qR (S : x_S) : pP := (0, 0, va_up (fun j => tn (S.2.1 9 j)) 0 0, fun j => tn (S.2.1 8 j), fun j => tn (S.2.1 10 j), fun j => tn (S.2.1 11 j), fun _ => 0, fun j => (S.2.1 5 j).toInt, fun j => tn (S.2.1 6 j), fun j => tn (S.2.1 7 j))
def rS (S : x_S) (n : Nat) : x_S := x_a (x_i (x_i (x_i (x_v S (.ref 133)) 7 (nI n)) 5 (Int32.ofInt 0)) 6 (Int32.ofInt 0)) 9 0 (Int32.ofInt 0)
theorem rS_R (S : x_S) (n : Nat) : RSr (rS S n) (qR S) := by
  refine ⟨⟨?_, ?_⟩, ⟨?_, ?_, ?_, ?_⟩, ?_, ?_, ?_, fun j hj => absurd hj (Nat.not_lt_zero j)⟩
  · show upd (upd (upd S.1 7 (nI n)) 5 (Int32.ofInt 0)) 6 (Int32.ofInt 0) 5 = nI 0
    rw [upd_n (by decide), upd_s]; rfl
  · show upd (upd (upd S.1 7 (nI n)) 5 (Int32.ofInt 0)) 6 (Int32.ofInt 0) 6 = nI 0
    rw [upd_s]; rfl
  · show ∀ j, upd (S.2.1 9) 0 (nI 0) j = _
    exact up_nI (fun j => tn_i _) 0 0
  · exact fun j => tn_i _
  · exact fun j => tn_i _
  · exact fun j => tn_i _
  · exact fun j => ti_i _
  · exact fun j => tn_i _
  · exact fun j => tn_i _
theorem rS_l (S : x_S) (n : Nat) : (rS S n).1 7 = nI n := by
  show upd (upd (upd S.1 7 (nI n)) 5 (Int32.ofInt 0)) 6 (Int32.ofInt 0) 7 = nI n
  rw [upd_n (by decide), upd_n (by decide), upd_s]
/-- only the reader and the fault have changed; it reads the row -/
def RDr (S S' : x_S) (n : Nat) : Prop := (∀ k, k < 3 ∨ 8 < k → S'.1 k = S.1 k) ∧ S'.1 7 = nI n ∧ (∀ k, k < 5 ∨ 11 < k → S'.2.1 k = S.2.1 k) ∧ (∀ k, k ≠ 1 → S'.2.2.1 k = S.2.2.1 k) ∧ S'.2.2.2 = .ref 133
theorem rS_F (S : x_S) (n : Nat) : RDr S (rS S n) n ∧ (rS S n).1 3 = S.1 3 ∧ (rS S n).1 4 = S.1 4 := by
  have e : ∀ k, k ≠ 5 → k ≠ 6 → k ≠ 7 → (rS S n).1 k = S.1 k := by
    intro k a b c
    show upd (upd (upd S.1 7 (nI n)) 5 (Int32.ofInt 0)) 6 (Int32.ofInt 0) k = S.1 k
    rw [upd_n b, upd_n a, upd_n c]
  exact ⟨⟨fun k hk => e k (by omega) (by omega) (by omega), rS_l S n, fun k hk => va_up_ne _ _ (by omega), fun _ _ => rfl, rfl⟩, e 3 (by decide) (by decide) (by decide), e 4 (by decide) (by decide) (by decide)⟩
theorem RDr.r {S S1 S2 : x_S} {n : Nat} (h : RDr S S1 n) (g : RFr S1 S2) : RDr S S2 n := ⟨fun k hk => (g.1 k (by omega) (by omega) (by omega)).trans (h.1 k hk), (g.1 7 (by decide) (by decide) (by decide)).trans h.2.1, fun k hk => (g.2.1 k hk).trans (h.2.2.1 k hk), fun k hk => (g.2.2.1 k hk).trans (h.2.2.2.1 k hk), g.2.2.2.trans h.2.2.2.2⟩
theorem RDr.f {S S1 : x_S} {n : Nat} (h : RDr S S1 n) (x y : Int32) : RDr S (x_i (x_i S1 3 x) 4 y) n := ⟨fun k hk => ((x_in _ _ (by omega)).trans (x_in _ _ (by omega))).trans (h.1 k hk), ((x_in _ _ (by decide)).trans (x_in _ _ (by decide))).trans h.2.1, h.2.2.1, h.2.2.2.1, h.2.2.2.2⟩
theorem qR_PI (S : x_S) : PI (qR S) := by
  refine ⟨by show 0 ≤ 400; decide, fun j l => absurd l (Nat.not_lt_zero j), rfl, fun j l => ?_, Or.inl ⟨rfl, Or.inl rfl⟩⟩
  rw [show j = 0 from Nat.le_zero.mp l]; exact (by decide : (0 : Int) ≤ 12)
theorem qR_I0 (S : x_S) : I0 (qR S) := fun _ => va_up_self (fun j => tn (S.2.1 9 j)) 0 0
/-- what a reading of the class leaves -/
def rdq (S S' : x_S) (r : Int × Nat × pP) : Prop := (r.1 = -1 → (S'.1 3 = S.1 3 ∧ S'.1 4 = S.1 4) ∧ RSr S' r.2.2) ∧ (r.1 ≠ -1 → S'.1 3 = iZ r.1 ∧ S'.1 4 = nI r.2.1)
theorem RSr.fr {S S1 : x_S} {P : pP} (h : RSr S P) (hk : ∀ k, 5 ≤ k → k ≤ 6 → S1.1 k = S.1 k) (ha : S1.2 = S.2) : RSr S1 P := by
  obtain ⟨a1, a2⟩ := S1
  obtain ⟨b1, b2⟩ := S
  cases ha
  exact ⟨⟨(hk 5 (by decide) (by decide)).trans h.1.1, (hk 6 (by decide) (by decide)).trans h.1.2⟩, h.2⟩
theorem nmis {sg : Nat → Nat} {P : pP} {s e : Nat} (h : perr sg P s e = -1) : ¬pmis P (wcd sg s e) := by
  have := perr_ok h
  unfold wcd
  by_cases z : cw sg s e = 39
  · rw [if_pos z]; exact pmis_2 (by rw [← z]; exact this.2.1)
  · rw [if_neg z]; exact this.2.1
set_option maxHeartbeats 4000000 in
set_option maxRecDepth 100000 in
theorem R_take_m {l : Launch} {G : ax_G} (S : x_S) (tl : List va_E) (P : pP) (s e n : Nat) (hv : S.2.2.2 = .ref 133) (hl : S.1 7 = nI n) (hn : n ≤ 8192) (hB : ∀ j, j < n → (S.2.1 0 j).toInt8.toInt32 = S.2.1 0 j) (hs : s < e ∧ e ≤ n) (hR : RSr S P) (hP : PI P) (h0 : I0 P) :
    AM l VV G R_take_y R_take_c 5 (some .int) 6 0 0 [.ref 141, .int (nI s), .int (nI e)] (x_hC S tl) (fun v h' => v = some (.int (iZ (perr (sgS S) P s e))) ∧ ∃ S', h' = x_hC S' tl ∧ RFr S S' ∧ (perr (sgS S) P s e = -1 → RSr S' (pput P (wcd (sgS S) s e) (wnm (sgS S) s e)))) := by
  refine AM.of (pl := pl_R) (by decide) v_good fl_R_ok kl_R_ok nofun (Nat.le_of_ble_eq_true rfl) ?_
  intro p0v e0v s0v m0v args below meth c0v X
  refine AW.run X R_take_d 0 3 rfl ?_
  refine AW.icmp_lt X (R_take_d.d 3 rfl) (fun q3 => ?_) (fun q3 => ?_)
  · have hn4 : qn P < 400 := (cgt (a := 400) (b := qn P) q3 (by decide) hR.1.1 (by decide) (by have := hP.1; omega))
    have hcl := cw_le (sgS S) s e
    refine AW.run X R_take_d 6 1 rfl ?_
    refine AW.run X R_take_d 7 1 rfl ?_
    rw [hv]
    refine AW.run X R_take_d 8 2 rfl ?_
    refine AW.callS (As := [.ref 133, .int (nI s), .int (nI e)]) X (O_spelled_m S tl s e n ⟨hs.1, hs.2, hn⟩ hB) cb_R_77 O_spelled_st rfl ⟨Nat.le_of_ble_eq_true rfl, Nat.le_of_ble_eq_true rfl⟩ (Nat.le_of_ble_eq_true rfl) ⟨Nat.le_of_ble_eq_true rfl, Nat.le_of_ble_eq_true rfl⟩ (R_take_d.d 10 rfl) (fun v h' q => ?_)
    obtain ⟨rfl, rfl⟩ := q
    by_cases hz : cw (sgS S) s e = 39
    · rw [if_pos hz]
      refine AW.run X R_take_d 11 3 rfl ?_
      refine AW.callV (As := [.null]) X (R_isMisplacedN_m S tl P hR hP) cb_R_81 rfl rfl R_isMisplaced_im R_isMisplaced_se rfl ⟨Nat.le_of_ble_eq_true rfl, Nat.le_of_ble_eq_true rfl⟩ (Nat.le_of_ble_eq_true rfl) ⟨Nat.le_of_ble_eq_true rfl, Nat.le_of_ble_eq_true rfl⟩ (R_take_d.d 14 rfl) (fun v h' q => ?_)
      obtain ⟨rfl, rfl⟩ := q
      rw [show pmis P 39 = pmis P (cw (sgS S) s e) by rw [hz]]
      refine AW.if_eq X (R_take_d.d 15 rfl) (fun q15 => ?_) (fun q15 => ?_)
      · have hnm : ¬pmis P (cw (sgS S) s e) := (fun z => absurd (dc_t z) (by rw [(bI_0 _).mp q15]; decide))
        have hpre := PI_pre hP hnm
        refine AW.run X R_take_d 18 1 rfl ?_
        refine AW.gets X gs_R_85.1 gs_R_85.2 (R_take_d.d 19 rfl) ?_
        have J52 : ∀ (_u : Nat), (cw (sgS S) s e = 0 → qd P < 12) → AW p0v l e0v (ax_R 6 0 0) s0v m0v args below meth c0v VV G 5 (x_hC S tl) 0 0 (MQ below (ax_Q VV G (fun v h' => v = some (.int (iZ (perr (sgS S) P s e))) ∧ ∃ S', h' = x_hC S' tl ∧ RFr S S' ∧ (perr (sgS S) P s e = -1 → RSr S' (pput P (wcd (sgS S) s e) (wnm (sgS S) s e))))) args s0v 0 0 (fun q => G.bs ≤ q)) 52 [(3, .null), (0, .ref 141), (1, .int (nI s)), (2, .int (nI e))] [] := by
          intro _u h12
          refine AW.run X R_take_d 27 2 rfl ?_
          refine AW.cp8 X (R_take_d.d 29 rfl) ?_
          refine AW.run X R_take_d 30 1 rfl ?_
          refine AW.ifnonnullN X (R_take_d.d 31 rfl) ?_
          refine AW.run X R_take_d 32 3 rfl ?_
          refine AW.callV (As := [.int (nI s), .int (nI e)]) X (R_readNumeral_m (x_i S 8 (Int32.ofInt 0)) tl s e n hv ((x_in S _ (by decide)).trans hl) hn hs.1 hs.2) cb_R_92 rfl rfl R_readNumeral_im R_readNumeral_se rfl ⟨Nat.le_of_ble_eq_true rfl, Nat.le_of_ble_eq_true rfl⟩ (Nat.le_of_ble_eq_true rfl) ⟨Nat.le_of_ble_eq_true rfl, Nat.le_of_ble_eq_true rfl⟩ (R_take_d.d 35 rfl) (fun v h' q => ?_)
          obtain ⟨rfl, q⟩ := q
          by_cases hq : nr (sgS S) s e = -1
          · have q := q.trans (if_pos hq)
            subst q
            rw [show nr (sgS (x_i S 8 (Int32.ofInt 0))) s e = -1 from hq]
            refine AW.run X R_take_d 36 3 rfl ?_
            refine AW.icmp_eq X (R_take_d.d 39 rfl) (fun q39 => ?_) (fun q39 => absurd rfl q39)
            refine AW.gets X gs_R_95.1 gs_R_95.2 (R_take_d.d 42 rfl) ?_
            refine AW.run X R_take_d 43 3 rfl ?_
            refine AW.callV (As := [.ref 2]) X (R_put_m (x_i (x_i S 8 (Int32.ofInt 0)) 8 (iZ (nv (sgS S) s e))) tl P 2 (nv (sgS S) s e) ((hR.num _).num _) (x_ig _ _ _) (by decide) hn4 (fun z => absurd z (by decide)) (fun z => absurd z (by decide)) (fun z => absurd z (by decide)) (fun z => absurd z (by decide))) cb_R_98 rfl rfl R_put_im R_put_se rfl ⟨Nat.le_of_ble_eq_true rfl, Nat.le_of_ble_eq_true rfl⟩ (Nat.le_of_ble_eq_true rfl) ⟨Nat.le_of_ble_eq_true rfl, Nat.le_of_ble_eq_true rfl⟩ (R_take_d.d 46 rfl) (fun v h' q => ?_)
            obtain ⟨rfl, S7, rfl, r1, r2⟩ := q
            refine AW.run X R_take_d 47 1 rfl ?_
            exact AW.iret X (R_take_d.d 48 rfl) (Nat.le_of_ble_eq_true rfl) (Nat.le_of_ble_eq_true rfl) ⟨by rw [perr_n hn4 hnm hz, hq]; rfl, S7, rfl, (((RFr.refl S).i _ (Or.inr (Or.inr rfl))).i _ (Or.inr (Or.inr rfl))).trans r2, fun _ => by unfold wcd wnm; rw [if_pos hz, if_pos hz]; exact r1⟩
          · have q := q.trans (if_neg hq)
            subst q
            refine AW.run X R_take_d 36 3 rfl ?_
            refine AW.icmp_eq X (R_take_d.d 39 rfl) (fun q39 => absurd (nr_i.mp q39) hq) (fun q39 => ?_)
            refine AW.run X R_take_d 40 1 rfl ?_
            exact AW.iret X (R_take_d.d 41 rfl) (Nat.le_of_ble_eq_true rfl) (Nat.le_of_ble_eq_true rfl) ⟨by rw [perr_n hn4 hnm hz]; rfl, _, rfl, (RFr.refl S).i _ (Or.inr (Or.inr rfl)), fun z => absurd ((perr_n hn4 hnm hz).symm.trans z) hq⟩
        refine AW.acmp_ne X none (some 0) trivial (Or.inl (by decide)) (R_take_d.d 20 rfl) (fun q20 => ?_) (fun q20 => nomatch q20)
        exact J52 0 (fun z => absurd z (by omega))
      · refine AW.run X R_take_d 16 1 rfl ?_
        exact AW.iret X (R_take_d.d 17 rfl) (Nat.le_of_ble_eq_true rfl) (Nat.le_of_ble_eq_true rfl) ⟨by rw [perr_7 hn4 (Classical.byContradiction fun z => q15 (by rw [dc_f z]; rfl))]; rfl, _, rfl, RFr.refl _, fun z => absurd ((perr_7 hn4 (Classical.byContradiction fun z => q15 (by rw [dc_f z]; rfl))).symm.trans z) (by decide)⟩
    · rw [if_neg hz]
      refine AW.run X R_take_d 11 3 rfl ?_
      refine AW.callV (As := [.ref (cw (sgS S) s e)]) X (R_isMisplacedS_m S tl P (cw (sgS S) s e) hR hP (by omega)) cb_R_81 rfl rfl R_isMisplaced_im R_isMisplaced_se rfl ⟨Nat.le_of_ble_eq_true rfl, Nat.le_of_ble_eq_true rfl⟩ (Nat.le_of_ble_eq_true rfl) ⟨Nat.le_of_ble_eq_true rfl, Nat.le_of_ble_eq_true rfl⟩ (R_take_d.d 14 rfl) (fun v h' q => ?_)
      obtain ⟨rfl, rfl⟩ := q
      refine AW.if_eq X (R_take_d.d 15 rfl) (fun q15 => ?_) (fun q15 => ?_)
      · have hnm : ¬pmis P (cw (sgS S) s e) := (fun z => absurd (dc_t z) (by rw [(bI_0 _).mp q15]; decide))
        have hpre := PI_pre hP hnm
        refine AW.run X R_take_d 18 1 rfl ?_
        refine AW.gets X gs_R_85.1 gs_R_85.2 (R_take_d.d 19 rfl) ?_
        have J52 : ∀ (_u : Nat), (cw (sgS S) s e = 0 → qd P < 12) → AW p0v l e0v (ax_R 6 0 0) s0v m0v args below meth c0v VV G 5 (x_hC S tl) 0 0 (MQ below (ax_Q VV G (fun v h' => v = some (.int (iZ (perr (sgS S) P s e))) ∧ ∃ S', h' = x_hC S' tl ∧ RFr S S' ∧ (perr (sgS S) P s e = -1 → RSr S' (pput P (wcd (sgS S) s e) (wnm (sgS S) s e))))) args s0v 0 0 (fun q => G.bs ≤ q)) 52 [(3, .ref (cw (sgS S) s e)), (0, .ref 141), (1, .int (nI s)), (2, .int (nI e))] [] := by
          intro _u h12
          refine AW.run X R_take_d 27 2 rfl ?_
          refine AW.cp8 X (R_take_d.d 29 rfl) ?_
          refine AW.run X R_take_d 30 1 rfl ?_
          refine AW.ifnonnull X (R_take_d.d 31 rfl) ?_
          refine AW.run X R_take_d 44 2 rfl ?_
          refine AW.callV (As := [.ref (cw (sgS S) s e)]) X (R_put_m (x_i S 8 (Int32.ofInt 0)) tl P (cw (sgS S) s e) 0 (hR.num _) (x_ig _ _ _) (by omega) hn4 h12 hpre.1 (fun z => I0_b h0 hP (hpre.1 z).1) (fun z => hpre.2 z (by omega))) cb_R_98 rfl rfl R_put_im R_put_se rfl ⟨Nat.le_of_ble_eq_true rfl, Nat.le_of_ble_eq_true rfl⟩ (Nat.le_of_ble_eq_true rfl) ⟨Nat.le_of_ble_eq_true rfl, Nat.le_of_ble_eq_true rfl⟩ (R_take_d.d 46 rfl) (fun v h' q => ?_)
          obtain ⟨rfl, S7, rfl, r1, r2⟩ := q
          refine AW.run X R_take_d 47 1 rfl ?_
          exact AW.iret X (R_take_d.d 48 rfl) (Nat.le_of_ble_eq_true rfl) (Nat.le_of_ble_eq_true rfl) ⟨by rw [perr_m hn4 hnm hz h12]; rfl, S7, rfl, ((RFr.refl S).i _ (Or.inr (Or.inr rfl))).trans r2, fun _ => by unfold wcd wnm; rw [if_neg hz, if_neg hz]; exact r1⟩
        refine AW.acmp_ne X (some (cw (sgS S) s e)) (some 0) (Or.inl (by omega)) (Or.inl (by decide)) (R_take_d.d 20 rfl) (fun q20 => ?_) (fun q20 => ?_)
        · exact J52 0 (fun z => absurd (by rw [z]) q20)
        · refine AW.run X R_take_d 21 3 rfl ?_
          refine AW.icmp_lt X (R_take_d.d 24 rfl) (fun q24 => ?_) (fun q24 => ?_)
          · exact J52 0 (fun _ => cgt (a := 12) (b := qd P) q24 (by decide) hR.1.2 (by decide) (by have := PI_d hP; omega))
          · refine AW.run X R_take_d 25 1 rfl ?_
            exact AW.iret X (R_take_d.d 26 rfl) (Nat.le_of_ble_eq_true rfl) (Nat.le_of_ble_eq_true rfl) ⟨by rw [perr_6 hn4 hnm ⟨Option.some.inj q20, Nat.not_lt.mp (fun z => q24 (by rw [hR.1.2]; exact nI_lt z (by decide)))⟩]; rfl, _, rfl, RFr.refl _, fun z => absurd ((perr_6 hn4 hnm ⟨Option.some.inj q20, Nat.not_lt.mp (fun z => q24 (by rw [hR.1.2]; exact nI_lt z (by decide)))⟩).symm.trans z) (by decide)⟩
      · refine AW.run X R_take_d 16 1 rfl ?_
        exact AW.iret X (R_take_d.d 17 rfl) (Nat.le_of_ble_eq_true rfl) (Nat.le_of_ble_eq_true rfl) ⟨by rw [perr_7 hn4 (Classical.byContradiction fun z => q15 (by rw [dc_f z]; rfl))]; rfl, _, rfl, RFr.refl _, fun z => absurd ((perr_7 hn4 (Classical.byContradiction fun z => q15 (by rw [dc_f z]; rfl))).symm.trans z) (by decide)⟩
  · refine AW.run X R_take_d 4 1 rfl ?_
    exact AW.iret X (R_take_d.d 5 rfl) (Nat.le_of_ble_eq_true rfl) (Nat.le_of_ble_eq_true rfl) ⟨by rw [perr_5 (Nat.not_lt.mp (fun z => q3 (by rw [hR.1.1]; exact nI_lt z (by decide))))]; rfl, _, rfl, RFr.refl _, fun z => absurd ((perr_5 (Nat.not_lt.mp (fun z => q3 (by rw [hR.1.1]; exact nI_lt z (by decide))))).symm.trans z) (by decide)⟩

set_option maxHeartbeats 4000000 in
set_option maxRecDepth 100000 in
theorem R_read_m {l : Launch} {G : ax_G} (S : x_S) (tl : List va_E) (n : Nat) (hn : n ≤ 8192) (hB : ∀ j, j < n → (S.2.1 0 j).toInt8.toInt32 = S.2.1 0 j) :
    AM l VV G R_read_y R_read_c 8 none 7 0 0 [.ref 141, .ref 133, .int (nI n), .ref 140] (x_hC S tl) (fun v h' => v = none ∧ ∃ S', h' = x_hC S' tl ∧ RDr S S' n ∧ rdq S S' (prs (sgS S) n 401 (ws (sgS S) n 0) (qR S))) := by
  refine AM.of (pl := pl_R) (by decide) v_good fl_R_ok kl_R_ok nofun (Nat.le_of_ble_eq_true rfl) ?_
  intro p0v e0v s0v m0v args below meth c0v X
  refine AW.run X R_read_d 0 2 rfl ?_
  refine AW.cpv X (R_read_d.d 2 rfl) ?_
  refine AW.run X R_read_d 3 2 rfl ?_
  refine AW.cp7 X (R_read_d.d 5 rfl) ?_
  refine AW.run X R_read_d 6 2 rfl ?_
  refine AW.cp5 X (R_read_d.d 8 rfl) ?_
  refine AW.run X R_read_d 9 2 rfl ?_
  refine AW.cp6 X (R_read_d.d 11 rfl) ?_
  refine AW.run X R_read_d 12 4 rfl ?_
  refine AW.cs9 (j := 0) X rfl (by decide) (R_read_d.d 16 rfl) ?_
  refine AW.run X R_read_d 17 2 rfl ?_
  refine AW.callV (As := [.int (nI 0)]) X (R_wordStart_m (rS S n) tl 0 n rfl (rS_l S n) hn (by omega)) cb_R_53 rfl rfl R_wordStart_im R_wordStart_se rfl ⟨Nat.le_of_ble_eq_true rfl, Nat.le_of_ble_eq_true rfl⟩ (Nat.le_of_ble_eq_true rfl) ⟨Nat.le_of_ble_eq_true rfl, Nat.le_of_ble_eq_true rfl⟩ (R_read_d.d 19 rfl) (fun v h' q => ?_)
  obtain ⟨rfl, rfl⟩ := q
  refine AW.run X R_read_d 20 3 rfl ?_
  have L37 : ∀ (t2 r st : Nat) (S2 : x_S) (P : pP), qn P = r → r ≤ 400 → 401 - r < t2 → st ≤ n → RSr S2 P → RDr S S2 n ∧ S2.1 3 = S.1 3 ∧ S2.1 4 = S.1 4 → PI P → I0 P → prs (sgS S) n (401 - r) st P = prs (sgS S) n 401 (ws (sgS S) n 0) (qR S) → AW p0v l e0v (ax_R 7 0 0) s0v m0v args below meth c0v VV G 8 (x_hC S2 tl) 0 0 (MQ below (ax_Q VV G (fun v h' => v = none ∧ ∃ S', h' = x_hC S' tl ∧ RDr S S' n ∧ rdq S S' (prs (sgS S) n 401 (ws (sgS S) n 0) (qR S)))) args s0v 0 0 (fun q => G.bs ≤ q)) 37 [(5, .int (nI r)), (4, .int (nI st)), (0, .ref 141), (1, .ref 133), (2, .int (nI n)), (3, .ref 140)] [] := by
    intro t2
    induction t2 with
    | zero => intro r st S2 P h1 h2 h3; exact absurd h3 (by omega)
    | succ t2 ih =>
      intro r st S2 P h1 h2 h3 h4 i1 i2 i3 i4 i5
      obtain ⟨i2, i6⟩ := i2
      refine AW.run X R_read_d 23 2 rfl ?_
      refine AW.icmp_gt X (R_read_d.d 25 rfl) (fun q25 => absurd (cgt (a := r) (b := 400) q25 rfl (by decide)) (by omega)) (fun q25 => ?_)
      have hsg : sgS S2 = sgS S := by unfold sgS; rw [show S2.2.1 0 = S.2.1 0 from i2.2.2.1 0 (by omega)]
      have hB2 : ∀ j, j < n → (S2.2.1 0 j).toInt8.toInt32 = S2.2.1 0 j := by rw [show S2.2.1 0 = S.2.1 0 from i2.2.2.1 0 (by omega)]; exact hB
      refine AW.run X R_read_d 26 3 rfl ?_
      refine AW.icmp_ge X (R_read_d.d 29 rfl) (fun q29 => ?_) (fun q29 => ?_)
      · refine AW.run X R_read_d 53 2 rfl ?_
        refine AW.if_eq X (R_read_d.d 55 rfl) (fun q55 => ?_) (fun q55 => ?_)
        · refine AW.run X R_read_d 59 4 rfl ?_
          refine AW.callV (As := [.int ((Int8.ofInt 7).toInt32), .int (S2.1 7)]) X (U_set_m _ tl _ _) cb_R_64 rfl rfl U_set_im U_set_se rfl ⟨Nat.le_of_ble_eq_true rfl, Nat.le_of_ble_eq_true rfl⟩ (Nat.le_of_ble_eq_true rfl) ⟨Nat.le_of_ble_eq_true rfl, Nat.le_of_ble_eq_true rfl⟩ (R_read_d.d 63 rfl) (fun v h' q => ?_)
          obtain ⟨rfl, rfl⟩ := q
          exact AW.vret X (R_read_d.d 64 rfl) (Nat.le_of_ble_eq_true rfl) (Nat.le_of_ble_eq_true rfl) (by
            have e : prs (sgS S) n 401 (ws (sgS S) n 0) (qR S) = (7, n, P) := by rw [← i5, prs_end (by have := cge q29 rfl i2.2.1; omega)]; exact if_pos (Or.inl ((nI_0i (by omega)).mp (i1.1.1.symm.trans q55)))
            exact ⟨rfl, _, rfl, i2.f _ _, by rw [e]; exact ⟨fun z => absurd (show (7 : Int) = -1 from z) (by decide), fun _ => ⟨(x_in _ _ (by decide)).trans (x_ig _ _ _), (x_ig _ _ _).trans i2.2.1⟩⟩⟩)
        · refine AW.run X R_read_d 56 2 rfl ?_
          refine AW.if_le X (R_read_d.d 58 rfl) (fun q58 => ?_) (fun q58 => ?_)
          · exact AW.vret X (R_read_d.d 64 rfl) (Nat.le_of_ble_eq_true rfl) (Nat.le_of_ble_eq_true rfl) (by
              have e : prs (sgS S) n 401 (ws (sgS S) n 0) (qR S) = (-1, n, P) := by rw [← i5, prs_end (by have := cge q29 rfl i2.2.1; omega)]; exact if_neg (fun z => z.elim (fun y => q55 (by rw [i1.1.1, y]; rfl)) (fun y => by have := cge (a := 0) (b := qd P) q58 (by decide) i1.1.2 (by decide) (by have := PI_d i3; omega); omega))
              exact ⟨rfl, S2, rfl, i2, by rw [e]; exact ⟨fun _ => ⟨i6, i1⟩, fun z => absurd rfl z⟩⟩)
          · refine AW.run X R_read_d 59 4 rfl ?_
            refine AW.callV (As := [.int ((Int8.ofInt 7).toInt32), .int (S2.1 7)]) X (U_set_m _ tl _ _) cb_R_64 rfl rfl U_set_im U_set_se rfl ⟨Nat.le_of_ble_eq_true rfl, Nat.le_of_ble_eq_true rfl⟩ (Nat.le_of_ble_eq_true rfl) ⟨Nat.le_of_ble_eq_true rfl, Nat.le_of_ble_eq_true rfl⟩ (R_read_d.d 63 rfl) (fun v h' q => ?_)
            obtain ⟨rfl, rfl⟩ := q
            exact AW.vret X (R_read_d.d 64 rfl) (Nat.le_of_ble_eq_true rfl) (Nat.le_of_ble_eq_true rfl) (by
              have e : prs (sgS S) n 401 (ws (sgS S) n 0) (qR S) = (7, n, P) := by rw [← i5, prs_end (by have := cge q29 rfl i2.2.1; omega)]; exact if_pos (Or.inr (clt (a := 0) (b := qd P) q58 (by decide) i1.1.2 (by decide) (by have := PI_d i3; omega)))
              exact ⟨rfl, _, rfl, i2.f _ _, by rw [e]; exact ⟨fun z => absurd (show (7 : Int) = -1 from z) (by decide), fun _ => ⟨(x_in _ _ (by decide)).trans (x_ig _ _ _), (x_ig _ _ _).trans i2.2.1⟩⟩⟩)
      · have hst : st < n := clt q29 rfl i2.2.1
        have hwg := we_gt (sgS S) n st
        have hwl := we_le (sg := (sgS S)) hst
        refine AW.run X R_read_d 30 2 rfl ?_
        refine AW.callV (As := [.int (nI st)]) X (R_wordEnd_m S2 tl st n i2.2.2.2.2 i2.2.1 hn hst) cb_R_57 rfl rfl R_wordEnd_im R_wordEnd_se rfl ⟨Nat.le_of_ble_eq_true rfl, Nat.le_of_ble_eq_true rfl⟩ (Nat.le_of_ble_eq_true rfl) ⟨Nat.le_of_ble_eq_true rfl, Nat.le_of_ble_eq_true rfl⟩ (R_read_d.d 32 rfl) (fun v h' q => ?_)
        obtain ⟨rfl, rfl⟩ := q
        rw [hsg]
        refine AW.run X R_read_d 33 4 rfl ?_
        refine AW.callV (As := [.int (nI st), .int (nI (we (sgS S) n st))]) X (R_take_m S2 tl P st (we (sgS S) n st) n i2.2.2.2.2 i2.2.1 hn hB2 ⟨hwg, hwl⟩ i1 i3 i4) cb_R_60 rfl rfl R_take_im R_take_se rfl ⟨Nat.le_of_ble_eq_true rfl, Nat.le_of_ble_eq_true rfl⟩ (Nat.le_of_ble_eq_true rfl) ⟨Nat.le_of_ble_eq_true rfl, Nat.le_of_ble_eq_true rfl⟩ (R_read_d.d 37 rfl) (fun v h' q => ?_)
        rw [hsg] at q
        obtain ⟨rfl, S3, rfl, q3, q4⟩ := q
        by_cases hq : perr (sgS S) P st (we (sgS S) n st) = -1
        · rw [hq]
          have q4 := q4 hq
          refine AW.run X R_read_d 38 3 rfl ?_
          refine AW.icmp_eq X (R_read_d.d 41 rfl) (fun q41 => ?_) (fun q41 => absurd rfl q41)
          refine AW.run X R_read_d 47 2 rfl ?_
          refine AW.callV (As := [.int (nI (we (sgS S) n st))]) X (R_wordStart_m S3 tl (we (sgS S) n st) n (i2.r q3).2.2.2.2 (i2.r q3).2.1 hn hwl) cb_R_53 rfl rfl R_wordStart_im R_wordStart_se rfl ⟨Nat.le_of_ble_eq_true rfl, Nat.le_of_ble_eq_true rfl⟩ (Nat.le_of_ble_eq_true rfl) ⟨Nat.le_of_ble_eq_true rfl, Nat.le_of_ble_eq_true rfl⟩ (R_read_d.d 49 rfl) (fun v h' q => ?_)
          obtain ⟨rfl, rfl⟩ := q
          rw [show sgS S3 = sgS S by unfold sgS; rw [show S3.2.1 0 = S.2.1 0 from (i2.r q3).2.2.1 0 (by omega)]]
          refine AW.run X R_read_d 50 2 rfl ?_
          refine AW.goto X (R_read_d.d 52 rfl) ?_
          refine AW.pk [0, 1, 4, 5, 6, 7] rfl ?_
          rw [nI_o1]
          exact ih (r + 1) (ws (sgS S) n (we (sgS S) n st)) S3 (pput P (wcd (sgS S) st (we (sgS S) n st)) (wnm (sgS S) st (we (sgS S) n st))) (by rw [pput_n, h1]) (by have := (perr_ok hq).1; omega) (by omega) (ws_le _ _ hwl) q4 ⟨i2.r q3, (q3.1 3 (by decide) (by decide) (by decide)).trans i6.1, (q3.1 4 (by decide) (by decide) (by decide)).trans i6.2⟩ (perr_put hq i3) (I0_put i4 (nmis hq)) (by rw [← i5, show 401 - r = (401 - (r + 1)) + 1 by have := (perr_ok hq).1; omega, prs_go hst hq])
        · refine AW.run X R_read_d 38 3 rfl ?_
          refine AW.icmp_eq X (R_read_d.d 41 rfl) (fun q41 => absurd (perr_i.mp q41) hq) (fun q41 => ?_)
          refine AW.run X R_read_d 42 3 rfl ?_
          refine AW.callV (As := [.int (iZ (perr (sgS S) P st (we (sgS S) n st))), .int (nI st)]) X (U_set_m _ tl _ _) cb_R_64 rfl rfl U_set_im U_set_se rfl ⟨Nat.le_of_ble_eq_true rfl, Nat.le_of_ble_eq_true rfl⟩ (Nat.le_of_ble_eq_true rfl) ⟨Nat.le_of_ble_eq_true rfl, Nat.le_of_ble_eq_true rfl⟩ (R_read_d.d 45 rfl) (fun v h' q => ?_)
          obtain ⟨rfl, rfl⟩ := q
          exact AW.vret X (R_read_d.d 46 rfl) (Nat.le_of_ble_eq_true rfl) (Nat.le_of_ble_eq_true rfl) (by
            have e : prs (sgS S) n 401 (ws (sgS S) n 0) (qR S) = (perr (sgS S) P st (we (sgS S) n st), st, P) := by rw [← i5, show 401 - r = (400 - r) + 1 by omega, prs_err hst hq]
            exact ⟨rfl, _, rfl, (i2.r q3).f _ _, by rw [e]; exact ⟨fun z => absurd z hq, fun _ => ⟨(x_in _ _ (by decide)).trans (x_ig _ _ _), x_ig _ _ _⟩⟩⟩)
  exact L37 402 0 (ws (sgS S) n 0) (rS S n) (qR S) rfl (by omega) (by omega) (ws_le _ _ (by omega)) (rS_R S n) (rS_F S n) (qR_PI S) (qR_I0 S) rfl

