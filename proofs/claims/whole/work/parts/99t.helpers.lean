/-! METHODS with a table of handlers -/
section AXHH
variable {p : Program} {l : Launch} {e : Env} {R : Room} {s : State} {m : MethodId} {args : Array Value} {below : List Frame} {meth : Method} {c : Code} {V : ax_V} {G : ax_G} {cc : ByteArray} {nL : Nat} {own : String} {pl : ax_pool} {ret : Option FieldType} {cells slots : Nat} {Q : State → Prop}
variable {pc : Nat} {lv : List (Nat × Value)} {r : List Value} {h : List va_E} {a t n j : Nat} {i : Int32}
def AMH (l : Launch) (V : ax_V) (G : ax_G) (y : MethodName) (cc : ByteArray) (maxL : Nat) (ret : Option FieldType) (hh : List (Nat × Nat × Nat × Nat)) (d mc ms : Nat) (As : List Value) (h : List va_E) (Qa : Option Value → List va_E → Prop) : Prop :=
  ax_I G → Met l y (.codeWith y cc maxL ret hh :: V.ts) (ax_R d mc ms) (va_Pc (As.map (ax_v G.ph)) (fun U => (ax_K V G U ∧ ax_H V G h U.heap) ∧ ax_LS G U)) (ax_Q V G Qa) mc ms (fun q => G.bs ≤ q)
theorem AMH.of {y : MethodName} {maxL d mc ms : Nat} {hh : List (Nat × Nat × Nat × Nat)} {As : List Value} {Qa : Option Value → List va_E → Prop} (hy : plainName y.cls = true) (hG : GoodIn V.ts V.ts) (hF : ax_F V y.cls pl.1) (hPL : ax_PL V y.cls pl.2.1) (hini : pl.2.2 = true → y.name = "<init>") (hs : (lg_sl As).length ≤ maxL)
    (body : ∀ (p : Program) (e : Env) (s : State) (m : MethodId) (args : Array Value) (below : List Frame) (meth : Method) (c : Code), ax_X p m meth c s args V G cc maxL y.cls pl ret → c.exceptionTable.toList.map (fun h => (h.startPc, h.endPc, h.handlerPc, h.catchType)) = hh → ax_LS G s →
      AW p l e (ax_R d mc ms) s m args below meth c V G maxL h 0 0 (MQ below (ax_Q V G Qa) args s mc ms (fun q => G.bs ≤ q)) 0 (lv_args 0 As) []) : AMH l V G y cc maxL ret hh d mc ms As h Qa := by
  intro hI
  refine va_MetW (cc := cc) (maxL := maxL) (ret := ret) (hh := hh) hy rfl ?_
  intro p e s m args below meth c s₁ B hml hv
  obtain ⟨rfl, ⟨hK, hH⟩, hLS⟩ := hv
  have hts := atoms_spec (ws := .codeWith y cc maxL ret hh :: V.ts) B.pre
  have X : ax_X p m meth c s ((As.map (ax_v G.ph)).toArray) V G cc maxL y.cls pl ret := ⟨B.exec, B.bytes, hml, findClass_of_methodNamed B.named, fun w hw => hts w (List.mem_cons_of_mem _ hw), hK, hI, hF, hPL, hG, B.notSynchronized, B.returns, fun q => (name_of_methodNamed B.named B.method).1.trans (hini q)⟩
  obtain ⟨m9, meth9, c9, hn9, hm9, hc9, -, -, htab, -⟩ := Cond.codeWith_spec (hts _ List.mem_cons_self)
  cases B.named.symm.trans hn9
  cases B.method.symm.trans hm9
  cases (Stand.of_body B).code.symm.trans hc9
  have hl := lv_entry (As.map (ax_v G.ph)) (n := maxL) (by rw [ax_sl]; exact hs)
  rw [lg_entry_eq]
  generalize (lg_sl (As.map (ax_v G.ph)) ++ List.replicate (maxL - (lg_sl (As.map (ax_v G.ph))).length) Slot.unset).toArray = ls at hl ⊢
  rw [ax_args] at hl
  exact body p e s m _ below meth c X htab hLS s.heap [] ls hH (fun q hq => by cases hq) hl
def ax_CBH (V : ax_V) (own : String) (index : Nat) (y : MethodName) (bytes : ByteArray) (maxL : Nat) (ret : Option FieldType) (hh : List (Nat × Nat × Nat × Nat)) (n : Nat) : Prop :=
  Cond.methodLink own index y ∈ V.ts ∧ Cond.initialized y.cls ∈ V.ts ∧ Cond.codeWith y bytes maxL ret hh ∈ V.ts ∧ Cond.static y ∈ V.ts ∧ (y.cls ≠ "java/lang/invoke/MethodHandle" ∧ y.cls ≠ "java/lang/invoke/VarHandle") ∧ (parseMethodDescriptor y.desc).map (fun d => d.parameters.length) = some n
theorem AW.callSH (X : ax_X p m meth c s args V G cc nL own pl ret) (hLS : ax_LS G s) {index : Nat} {y : MethodName} {bytes : ByteArray} {maxL d mc ms : Nat} {ret' : Option FieldType} {hh : List (Nat × Nat × Nat × Nat)} {As : List Value} {Qa : Option Value → List va_E → Prop} (hM : AMH l V G y bytes maxL ret' hh d mc ms As h Qa) (hw : ax_CBH V own index y bytes maxL ret' hh n) (hn : As.length = n) (hR : d + 1 ≤ R.frames ∧ 19 + maxL + 40 * d ≤ R.locals) (hr : (r.map fun v => v.category).sum ≤ 8) (hf : cells + mc ≤ R.cells ∧ slots + ms ≤ R.slots) (hd : decode cc pc = .ok (.invokestatic index, 3))
    (kk : ∀ (v : Option Value) (h' : List va_E), Qa v h' → AW p l e R s m args below meth c V G nL h' (cells + mc) (slots + ms) Q (pc + 3) lv (v.toList ++ r)) : AW p l e R s m args below meth c V G nL h cells slots Q pc lv (As.reverse ++ r) := by
  obtain ⟨w1, w2, w3, w4, hy, hpn⟩ := hw
  refine AW.callR (a' := (As.map (ax_v G.ph)).toArray) (fun H locs ls hH hv => ?_) kk
  have hws : ∀ w ∈ (.codeWith y bytes maxL ret' hh :: V.ts : List Cond), ∀ (a' : Array Value) (U : State), s.WarmedH U.vm → w.before a' U = true := by
    intro w hw a' U hW
    rcases List.mem_cons.mp hw with rfl | hw
    · exact pay_in X.ts X.gd _ w3 a' U hW
    · exact pay_in X.ts X.gd _ hw a' U hW
  have hK : Back l R p e below s args y 3 8 (PreOf R mc ms (va_Pc (As.map (ax_v G.ph)) (fun U => (ax_K V G U ∧ ax_H V G h U.heap) ∧ ax_LS G U))) (PostOf (ax_Q V G Qa) mc ms (fun q => G.bs ≤ q)) := va_backW (hh := hh) (bytes := bytes) (maxL := maxL) (ret := ret') (hM X.i) (fun a U g mk q => ⟨q.1, ⟨q.2.1.1.moved (U := U.calling g mk a) (State.WarmedH.refl U), q.2.1.2⟩, q.2.2.moved (U := U.calling g mk a) (State.WarmedH.refl U)⟩) rfl rfl hR.1 (by show 8 + (maxL + 11) + 40 * d ≤ R.locals; have := hR.2; omega) hws List.mem_cons_self (fun a' U hW => pay_in X.ts X.gd _ w2 a' U hW)
  intro T hT X0
  obtain ⟨mk, methM, cM, hnamed, hmethM, -, -, -, -, -, -, hsigM⟩ := Cond.codeWith_spec (X.ts _ w3)
  have hstatic : methM.isStatic = true := Cond.static_spec hnamed hmethM (X.ts _ w4)
  obtain ⟨kP, hkP, -⟩ := className_of_methodNamed hnamed
  have hinitP : kP.init = .initialized := Cond.initialized_spec (findClass_of_methodNamed hnamed) hkP (X.ts _ w2)
  have hlen : (As.map (ax_v G.ph)).length = methM.sig.parameters.length := by
    rw [List.length_map, hn]
    rw [hsigM] at hpn
    exact (Option.some.inj hpn).symm
  obtain ⟨vm₁, X₁, hstep₁⟩ := X0.invokestatic X.x X.ow (X.ts _ w1) hnamed hmethM hstatic hkP hinitP hy (g := F0 m pc ls ((As.reverse ++ r).map (ax_v G.ph))) rfl (argsL := As.map (ax_v G.ph)) (rest := r.map (ax_v G.ph)) hlen (by rw [List.map_append, List.map_reverse]) (by rw [X.b]; exact hd)
  obtain ⟨v, ⟨U', l2, c2, s2⟩, X', ⟨g', mk', t, L, e1, e2, hq, h1, hL, h2, h3⟩, hsteps⟩ := hK m meth c ⟨T.setVm vm₁, locs, cells, slots⟩ (F0 m pc ls (r.map (ax_v G.ph))) (.invokestatic index) mk (As.map (ax_v G.ph)).toArray X₁ rfl (hv.1.trans X.ml.symm) (by rw [X.b]; exact hd) (ax_rm8 hr) (X₁.named hnamed) ⟨hf.1, hf.2, rfl, ⟨X.k.moved X₁.warmed, by show ax_H V G h T.heap; rw [hT]; exact hH⟩, hLS.moved X₁.warmed⟩
  dsimp only [Pt.U, Pt.locs, Pt.cells, Pt.slots] at X' e1 e2 h1 h2 h3 hsteps
  subst h1; subst h2; subst h3
  exact ⟨v, (T.setVm vm₁).calling g' mk' (As.map (ax_v G.ph)).toArray, t, U', L, hT, X', hL, e1, e2, hq, fun target h => hstep₁ _ fun acts => by rw [doInvoke_state]; exact hsteps.trans h⟩
end AXHH
theorem ax_tab1 {L : List ExceptionTableEntry} {a b c d : Nat} (h : L.map (fun h => (h.startPc, h.endPc, h.handlerPc, h.catchType)) = [(a, b, c, d)]) : ∃ x, L = [x] ∧ x.startPc = a ∧ x.endPc = b ∧ x.handlerPc = c ∧ x.catchType = d := by
  obtain ⟨x, t, rfl, h1, h2⟩ := List.map_eq_cons_iff.mp h
  obtain rfl := List.map_eq_nil_iff.mp h2
  simp only [Prod.mk.injEq] at h1
  exact ⟨x, rfl, h1.1, h1.2.1, h1.2.2.1, h1.2.2.2⟩
theorem ax_tab2 {L : List ExceptionTableEntry} {a b c d a' b' c' d' : Nat} (h : L.map (fun h => (h.startPc, h.endPc, h.handlerPc, h.catchType)) = [(a, b, c, d), (a', b', c', d')]) : ∃ x y, L = [x, y] ∧ (x.startPc = a ∧ x.endPc = b ∧ x.handlerPc = c ∧ x.catchType = d) ∧ y.startPc = a' ∧ y.endPc = b' ∧ y.handlerPc = c' ∧ y.catchType = d' := by
  obtain ⟨x, t, rfl, h1, h2⟩ := List.map_eq_cons_iff.mp h
  obtain ⟨y, rfl, h3⟩ := ax_tab1 h2
  simp only [Prod.mk.injEq] at h1
  exact ⟨x, y, rfl, ⟨h1.1, h1.2.1, h1.2.2.1, h1.2.2.2⟩, h3⟩
theorem cov_t {x : ExceptionTableEntry} {a b k : Nat} (h1 : x.startPc = a) (h2 : x.endPc = b) (h : a ≤ k ∧ k < b) : covers x k = true := by
  simp [covers, h1, h2, h.1, h.2]
theorem x_hMa (S : x_S) (M : x_M) (T : List va_E) (c : va_E) : x_hM S M T ++ [c] = x_hM S M (T ++ [c]) := (x_app S (x_ms M ++ T) c).trans (by rw [List.append_assoc]; rfl)
theorem x_hMs (S : x_S) (M : x_M) (T : List va_E) (c : va_E) : (x_hM S M T).set 173 c = x_hM S M (T.set 0 c) := (x_set S (x_ms M ++ T) (20 + 0) c).trans (congrArg (x_hC S) (ms_s M T 0 c))
theorem x_hMo {S : x_S} {M : x_M} {T : List va_E} {c : va_E} (h : T[0]? = some c) : (x_hM S M T)[173]? = some c := (x_tl S _ (20 + 0)).trans ((ms_t M T 0).trans h)
/-- the second kind of refusal is not the first -/
theorem ax_p2 {p : Program} {s : State} {m : MethodId} {args : Array Value} {meth : Method} {c : Code} {G : ax_G} {cc : ByteArray} {nL : Nat} {own : String} {pl : ax_pool} {ret : Option FieldType} (X : ax_X p m meth c s args VV G cc nL own pl ret) {y : ExceptionTableEntry} {k : ClassId} {pc : Nat} (hk : s.vm.findClass "java/lang/IllegalStateException" = some k) (hc : covers y pc = true) (h0 : y.catchType ≠ 0) (hlink : Cond.classLink own y.catchType "java/lang/IllegalArgumentException" ∈ VV.ts) : ax_pass own args s k pc y := by
  obtain ⟨c1, c2, h1, h2, h3⟩ := X.k.2.2.2.2.2.2.2.2.1
  cases hk.symm.trans h1
  exact ⟨hc, h0, _, c2, X.ts _ hlink, h2, h3⟩

theorem ch_L_45 : ax_CBH VV "NumberFunctionsLaw" 45 L_cut_y L_cut_c 4 (some .int) [(0, 9, 12, 13)] 3 := ⟨mt1 (List.mem_of_getElem? (i := 201) rfl), mt1 (List.mem_of_getElem? (i := 0) rfl), mt1 (List.mem_of_getElem? (i := 203) rfl), L_cut_st, ⟨by decide, by decide⟩, by decide +kernel⟩
set_option maxHeartbeats 4000000 in
set_option maxRecDepth 100000 in
theorem L_cutS_m {l : Launch} {G : ax_G} (S : x_S) (M : x_M) (T : List va_E) (x0 : Int32) (B : Nat → Nat) (val : Int32) (MI : x_S → List va_E → Prop) (hE : AM l VV G N_cut_y N_cut_c 3 (some .int) 1 0 0 [.ref 132, .int x0] (x_hM S M T) (fun v h' => v = some (.int val) ∧ ∃ S' T', h' = x_hM S' M T' ∧ OT T' B ∧ MI S' T')) :
    AMH l VV G L_cut_y L_cut_c 4 (some .int) [(0, 9, 12, 13)] 2 0 0 [.ref 132, .int x0, .ref 173] (x_hM S M T) (fun v h' => v = some (.int 0) ∧ ∃ S' T' w, h' = x_hM S' M (T'.set 0 (oC w)) ∧ w 0 = val.toInt64 ∧ MI S' T') := by
  refine AMH.of (pl := pl_L) (by decide) v_good fl_L_ok kl_L_ok nofun (Nat.le_of_ble_eq_true rfl) ?_
  intro p0v e0v s0v m0v args below meth c0v X htab hLS
  refine AW.run X L_cut_d 0 4 rfl ?_
  refine AW.callV (As := [.int x0]) X hE cb_L_7 rfl rfl N_cut_im N_cut_se rfl ⟨Nat.le_of_ble_eq_true rfl, Nat.le_of_ble_eq_true rfl⟩ (Nat.le_of_ble_eq_true rfl) ⟨Nat.le_of_ble_eq_true rfl, Nat.le_of_ble_eq_true rfl⟩ (L_cut_d.d 4 rfl) (fun v h' q => ?_)
  obtain ⟨rfl, S', T', rfl, hO, hI⟩ := q
  obtain ⟨-, ⟨w0, e0⟩, -⟩ := hO
  refine AW.run X L_cut_d 5 1 rfl ?_
  refine AW.last (t := 2) (n := 1) (j := 0) X (x_hMo e0) rfl (by decide) rfl (by decide) (by decide) (L_cut_d.d 6 rfl) ?_
  refine AW.eq (h' := x_hM S' M (T'.set 0 (oC (vp_updL w0 0 val.toInt64)))) (x_hMs S' M T' _) ?_
  refine AW.goto X (L_cut_d.d 7 rfl) ?_
  refine AW.run X L_cut_d 11 1 rfl ?_
  exact AW.iret X (L_cut_d.d 12 rfl) (Nat.le_of_ble_eq_true rfl) (Nat.le_of_ble_eq_true rfl) ⟨rfl, S', T', _, rfl, by simp [vp_updL], hI⟩

set_option maxHeartbeats 4000000 in
set_option maxRecDepth 100000 in
theorem L_cutT_m {l : Launch} {G : ax_G} (S : x_S) (M : x_M) (T : List va_E) (x0 : Int32) (hT : AT l VV G N_cut_y N_cut_c 3 (some .int) 6 [.ref 132, .int x0] (x_hM S M T) 10) :
    AMH l VV G L_cut_y L_cut_c 4 (some .int) [(0, 9, 12, 13)] 8 1 6 [.ref 132, .int x0, .ref 173] (x_hM S M T) (fun v h' => v = some (.int 1) ∧ h' = x_hM S M (T ++ [.inr (10, [])])) := by
  refine AMH.of (pl := pl_L) (by decide) v_good fl_L_ok kl_L_ok nofun (Nat.le_of_ble_eq_true rfl) ?_
  intro p0v e0v s0v m0v args below meth c0v X htab hLS
  obtain ⟨x, hx, h1, h2, h3, h4⟩ := ax_tab1 htab
  refine AW.run X L_cut_d 0 4 rfl ?_
  refine AW.callT (As := [.int x0]) (T0 := Cl_EA) X hLS hT cb_L_7 rfl rfl N_cut_im N_cut_se rfl ⟨Nat.le_of_ble_eq_true rfl, Nat.le_of_ble_eq_true rfl⟩ (Nat.le_of_ble_eq_true rfl) ⟨Nat.le_of_ble_eq_true rfl, Nat.le_of_ble_eq_true rfl⟩ (L_cut_d.d 4 rfl) [] x [] hx (fun k hk y hy => by cases hy) (cov_t h1 h2 ⟨by decide, by decide⟩) (by rw [h4]; decide) (by rw [h4]; exact mt1 (List.mem_of_getElem? (i := 204) rfl)) rfl (List.mem_of_getElem? (i := 0) rfl) ?_
  rw [h3]
  refine AW.run X L_cut_d 8 2 rfl ?_
  exact AW.iret X (L_cut_d.d 10 rfl) (Nat.le_of_ble_eq_true rfl) (Nat.le_of_ble_eq_true rfl) ⟨rfl, x_hMa S M T _⟩

theorem ch_L_55 : ax_CBH VV "NumberFunctionsLaw" 55 L_tell_y L_tell_c 4 (some .int) [(0, 9, 12, 13), (0, 9, 15, 18)] 3 := ⟨mt2 (List.mem_of_getElem? (i := 39) rfl), mt1 (List.mem_of_getElem? (i := 0) rfl), mt2 (List.mem_of_getElem? (i := 41) rfl), L_tell_st, ⟨by decide, by decide⟩, by decide +kernel⟩
set_option maxHeartbeats 4000000 in
set_option maxRecDepth 100000 in
theorem L_tellS_m {l : Launch} {G : ax_G} (S : x_S) (M : x_M) (T : List va_E) (x0 : Int32) (B : Nat → Nat) (val : Int32) (MI : x_S → List va_E → Prop) (hE : AM l VV G N_tell_y N_tell_c 2 (some .int) 1 0 0 [.ref 132, .int x0] (x_hM S M T) (fun v h' => v = some (.int val) ∧ ∃ S' T', h' = x_hM S' M T' ∧ OT T' B ∧ MI S' T')) :
    AMH l VV G L_tell_y L_tell_c 4 (some .int) [(0, 9, 12, 13), (0, 9, 15, 18)] 2 0 0 [.ref 132, .int x0, .ref 173] (x_hM S M T) (fun v h' => v = some (.int 0) ∧ ∃ S' T' w, h' = x_hM S' M (T'.set 0 (oC w)) ∧ w 0 = val.toInt64 ∧ MI S' T') := by
  refine AMH.of (pl := pl_L) (by decide) v_good fl_L_ok kl_L_ok nofun (Nat.le_of_ble_eq_true rfl) ?_
  intro p0v e0v s0v m0v args below meth c0v X htab hLS
  refine AW.run X L_tell_d 0 4 rfl ?_
  refine AW.callV (As := [.int x0]) X hE cb_L_15 rfl rfl N_tell_im N_tell_se rfl ⟨Nat.le_of_ble_eq_true rfl, Nat.le_of_ble_eq_true rfl⟩ (Nat.le_of_ble_eq_true rfl) ⟨Nat.le_of_ble_eq_true rfl, Nat.le_of_ble_eq_true rfl⟩ (L_tell_d.d 4 rfl) (fun v h' q => ?_)
  obtain ⟨rfl, S', T', rfl, hO, hI⟩ := q
  obtain ⟨-, ⟨w0, e0⟩, -⟩ := hO
  refine AW.run X L_tell_d 5 1 rfl ?_
  refine AW.last (t := 2) (n := 1) (j := 0) X (x_hMo e0) rfl (by decide) rfl (by decide) (by decide) (L_tell_d.d 6 rfl) ?_
  refine AW.eq (h' := x_hM S' M (T'.set 0 (oC (vp_updL w0 0 val.toInt64)))) (x_hMs S' M T' _) ?_
  refine AW.goto X (L_tell_d.d 7 rfl) ?_
  refine AW.run X L_tell_d 14 1 rfl ?_
  exact AW.iret X (L_tell_d.d 15 rfl) (Nat.le_of_ble_eq_true rfl) (Nat.le_of_ble_eq_true rfl) ⟨rfl, S', T', _, rfl, by simp [vp_updL], hI⟩

set_option maxHeartbeats 4000000 in
set_option maxRecDepth 100000 in
theorem L_tellT_m {l : Launch} {G : ax_G} (S : x_S) (M : x_M) (T : List va_E) (x0 : Int32) (hT : AT l VV G N_tell_y N_tell_c 2 (some .int) 6 [.ref 132, .int x0] (x_hM S M T) 10) :
    AMH l VV G L_tell_y L_tell_c 4 (some .int) [(0, 9, 12, 13), (0, 9, 15, 18)] 8 1 6 [.ref 132, .int x0, .ref 173] (x_hM S M T) (fun v h' => v = some (.int 1) ∧ h' = x_hM S M (T ++ [.inr (10, [])])) := by
  refine AMH.of (pl := pl_L) (by decide) v_good fl_L_ok kl_L_ok nofun (Nat.le_of_ble_eq_true rfl) ?_
  intro p0v e0v s0v m0v args below meth c0v X htab hLS
  obtain ⟨x, y, hx, ⟨h1, h2, h3, h4⟩, -⟩ := ax_tab2 htab
  refine AW.run X L_tell_d 0 4 rfl ?_
  refine AW.callT (As := [.int x0]) (T0 := Cl_EA) X hLS hT cb_L_15 rfl rfl N_tell_im N_tell_se rfl ⟨Nat.le_of_ble_eq_true rfl, Nat.le_of_ble_eq_true rfl⟩ (Nat.le_of_ble_eq_true rfl) ⟨Nat.le_of_ble_eq_true rfl, Nat.le_of_ble_eq_true rfl⟩ (L_tell_d.d 4 rfl) [] x [y] hx (fun k hk y hy => by cases hy) (cov_t h1 h2 ⟨by decide, by decide⟩) (by rw [h4]; decide) (by rw [h4]; exact mt1 (List.mem_of_getElem? (i := 204) rfl)) rfl (List.mem_of_getElem? (i := 0) rfl) ?_
  rw [h3]
  refine AW.run X L_tell_d 8 2 rfl ?_
  exact AW.iret X (L_tell_d.d 10 rfl) (Nat.le_of_ble_eq_true rfl) (Nat.le_of_ble_eq_true rfl) ⟨rfl, x_hMa S M T _⟩

set_option maxHeartbeats 4000000 in
set_option maxRecDepth 100000 in
theorem L_tellU_m {l : Launch} {G : ax_G} (S : x_S) (M : x_M) (T : List va_E) (x0 : Int32) (hT : AT l VV G N_tell_y N_tell_c 2 (some .int) 6 [.ref 132, .int x0] (x_hM S M T) 11) :
    AMH l VV G L_tell_y L_tell_c 4 (some .int) [(0, 9, 12, 13), (0, 9, 15, 18)] 8 1 6 [.ref 132, .int x0, .ref 173] (x_hM S M T) (fun v h' => v = some (.int 2) ∧ h' = x_hM S M (T ++ [.inr (11, [])])) := by
  refine AMH.of (pl := pl_L) (by decide) v_good fl_L_ok kl_L_ok nofun (Nat.le_of_ble_eq_true rfl) ?_
  intro p0v e0v s0v m0v args below meth c0v X htab hLS
  obtain ⟨y, x, hx, ⟨g1, g2, g3, g4⟩, h1, h2, h3, h4⟩ := ax_tab2 htab
  refine AW.run X L_tell_d 0 4 rfl ?_
  refine AW.callT (As := [.int x0]) (T0 := Cl_ES) X hLS hT cb_L_15 rfl rfl N_tell_im N_tell_se rfl ⟨Nat.le_of_ble_eq_true rfl, Nat.le_of_ble_eq_true rfl⟩ (Nat.le_of_ble_eq_true rfl) ⟨Nat.le_of_ble_eq_true rfl, Nat.le_of_ble_eq_true rfl⟩ (L_tell_d.d 4 rfl) [y] x [] hx (fun k hk z hz => by
    obtain rfl := List.mem_singleton.mp hz
    exact ax_p2 X hk (cov_t g1 g2 ⟨by decide, by decide⟩) (by rw [g4]; decide) (by rw [g4]; exact ck_L_13)) (cov_t h1 h2 ⟨by decide, by decide⟩) (by rw [h4]; decide) (by rw [h4]; exact mt2 (List.mem_of_getElem? (i := 42) rfl)) rfl (List.mem_of_getElem? (i := 1) rfl) ?_
  rw [h3]
  refine AW.run X L_tell_d 11 2 rfl ?_
  exact AW.iret X (L_tell_d.d 13 rfl) (Nat.le_of_ble_eq_true rfl) (Nat.le_of_ble_eq_true rfl) ⟨rfl, x_hMa S M T _⟩

theorem ch_L_62 : ax_CBH VV "NumberFunctionsLaw" 62 L_make_y L_make_c 6 (some .int) [(0, 12, 15, 13), (0, 12, 19, 18)] 5 := ⟨mt2 (List.mem_of_getElem? (i := 69) rfl), mt1 (List.mem_of_getElem? (i := 0) rfl), mt2 (List.mem_of_getElem? (i := 71) rfl), L_make_st, ⟨by decide, by decide⟩, by decide +kernel⟩
set_option maxHeartbeats 4000000 in
set_option maxRecDepth 100000 in
theorem L_makeS_m {l : Launch} {G : ax_G} (S : x_S) (M : x_M) (T : List va_E) (x0 x1 x2 : Int32) (B : Nat → Nat) (val : Int32) (MI : x_S → List va_E → Prop) (hE : AM l VV G N_make_y N_make_c 5 (some .int) 9 6 8700 [.ref 132, .int x0, .int x1, .int x2] (x_hM S M T) (fun v h' => v = some (.int val) ∧ ∃ S' T', h' = x_hM S' M T' ∧ OT T' B ∧ MI S' T')) :
    AMH l VV G L_make_y L_make_c 6 (some .int) [(0, 12, 15, 13), (0, 12, 19, 18)] 10 6 8700 [.ref 132, .int x0, .int x1, .int x2, .ref 173] (x_hM S M T) (fun v h' => v = some (.int 0) ∧ ∃ S' T' w, h' = x_hM S' M (T'.set 0 (oC w)) ∧ w 0 = val.toInt64 ∧ MI S' T') := by
  refine AMH.of (pl := pl_L) (by decide) v_good fl_L_ok kl_L_ok nofun (Nat.le_of_ble_eq_true rfl) ?_
  intro p0v e0v s0v m0v args below meth c0v X htab hLS
  refine AW.run X L_make_d 0 6 rfl ?_
  refine AW.callV (As := [.int x0, .int x1, .int x2]) X hE cb_L_20 rfl rfl N_make_im N_make_se rfl ⟨Nat.le_of_ble_eq_true rfl, Nat.le_of_ble_eq_true rfl⟩ (Nat.le_of_ble_eq_true rfl) ⟨Nat.le_of_ble_eq_true rfl, Nat.le_of_ble_eq_true rfl⟩ (L_make_d.d 6 rfl) (fun v h' q => ?_)
  obtain ⟨rfl, S', T', rfl, hO, hI⟩ := q
  obtain ⟨-, ⟨w0, e0⟩, -⟩ := hO
  refine AW.run X L_make_d 7 1 rfl ?_
  refine AW.last (t := 2) (n := 1) (j := 0) X (x_hMo e0) rfl (by decide) rfl (by decide) (by decide) (L_make_d.d 8 rfl) ?_
  refine AW.eq (h' := x_hM S' M (T'.set 0 (oC (vp_updL w0 0 val.toInt64)))) (x_hMs S' M T' _) ?_
  refine AW.goto X (L_make_d.d 9 rfl) ?_
  refine AW.run X L_make_d 16 1 rfl ?_
  exact AW.iret X (L_make_d.d 17 rfl) (Nat.le_of_ble_eq_true rfl) (Nat.le_of_ble_eq_true rfl) ⟨rfl, S', T', _, rfl, by simp [vp_updL], hI⟩

set_option maxHeartbeats 4000000 in
set_option maxRecDepth 100000 in
theorem L_makeT_m {l : Launch} {G : ax_G} (S : x_S) (M : x_M) (T : List va_E) (x0 x1 x2 : Int32) (hT : AT l VV G N_make_y N_make_c 5 (some .int) 6 [.ref 132, .int x0, .int x1, .int x2] (x_hM S M T) 10) :
    AMH l VV G L_make_y L_make_c 6 (some .int) [(0, 12, 15, 13), (0, 12, 19, 18)] 8 1 6 [.ref 132, .int x0, .int x1, .int x2, .ref 173] (x_hM S M T) (fun v h' => v = some (.int 1) ∧ h' = x_hM S M (T ++ [.inr (10, [])])) := by
  refine AMH.of (pl := pl_L) (by decide) v_good fl_L_ok kl_L_ok nofun (Nat.le_of_ble_eq_true rfl) ?_
  intro p0v e0v s0v m0v args below meth c0v X htab hLS
  obtain ⟨x, y, hx, ⟨h1, h2, h3, h4⟩, -⟩ := ax_tab2 htab
  refine AW.run X L_make_d 0 6 rfl ?_
  refine AW.callT (As := [.int x0, .int x1, .int x2]) (T0 := Cl_EA) X hLS hT cb_L_20 rfl rfl N_make_im N_make_se rfl ⟨Nat.le_of_ble_eq_true rfl, Nat.le_of_ble_eq_true rfl⟩ (Nat.le_of_ble_eq_true rfl) ⟨Nat.le_of_ble_eq_true rfl, Nat.le_of_ble_eq_true rfl⟩ (L_make_d.d 6 rfl) [] x [y] hx (fun k hk y hy => by cases hy) (cov_t h1 h2 ⟨by decide, by decide⟩) (by rw [h4]; decide) (by rw [h4]; exact mt1 (List.mem_of_getElem? (i := 204) rfl)) rfl (List.mem_of_getElem? (i := 0) rfl) ?_
  rw [h3]
  refine AW.run X L_make_d 10 2 rfl ?_
  exact AW.iret X (L_make_d.d 12 rfl) (Nat.le_of_ble_eq_true rfl) (Nat.le_of_ble_eq_true rfl) ⟨rfl, x_hMa S M T _⟩

set_option maxHeartbeats 4000000 in
set_option maxRecDepth 100000 in
theorem L_makeU_m {l : Launch} {G : ax_G} (S : x_S) (M : x_M) (T : List va_E) (x0 x1 x2 : Int32) (hT : AT l VV G N_make_y N_make_c 5 (some .int) 6 [.ref 132, .int x0, .int x1, .int x2] (x_hM S M T) 11) :
    AMH l VV G L_make_y L_make_c 6 (some .int) [(0, 12, 15, 13), (0, 12, 19, 18)] 8 1 6 [.ref 132, .int x0, .int x1, .int x2, .ref 173] (x_hM S M T) (fun v h' => v = some (.int 2) ∧ h' = x_hM S M (T ++ [.inr (11, [])])) := by
  refine AMH.of (pl := pl_L) (by decide) v_good fl_L_ok kl_L_ok nofun (Nat.le_of_ble_eq_true rfl) ?_
  intro p0v e0v s0v m0v args below meth c0v X htab hLS
  obtain ⟨y, x, hx, ⟨g1, g2, g3, g4⟩, h1, h2, h3, h4⟩ := ax_tab2 htab
  refine AW.run X L_make_d 0 6 rfl ?_
  refine AW.callT (As := [.int x0, .int x1, .int x2]) (T0 := Cl_ES) X hLS hT cb_L_20 rfl rfl N_make_im N_make_se rfl ⟨Nat.le_of_ble_eq_true rfl, Nat.le_of_ble_eq_true rfl⟩ (Nat.le_of_ble_eq_true rfl) ⟨Nat.le_of_ble_eq_true rfl, Nat.le_of_ble_eq_true rfl⟩ (L_make_d.d 6 rfl) [y] x [] hx (fun k hk z hz => by
    obtain rfl := List.mem_singleton.mp hz
    exact ax_p2 X hk (cov_t g1 g2 ⟨by decide, by decide⟩) (by rw [g4]; decide) (by rw [g4]; exact ck_L_13)) (cov_t h1 h2 ⟨by decide, by decide⟩) (by rw [h4]; decide) (by rw [h4]; exact mt2 (List.mem_of_getElem? (i := 42) rfl)) rfl (List.mem_of_getElem? (i := 1) rfl) ?_
  rw [h3]
  refine AW.run X L_make_d 13 2 rfl ?_
  exact AW.iret X (L_make_d.d 15 rfl) (Nat.le_of_ble_eq_true rfl) (Nat.le_of_ble_eq_true rfl) ⟨rfl, x_hMa S M T _⟩

theorem ch_L_70 : ax_CBH VV "NumberFunctionsLaw" 70 L_input_y L_input_c 5 (some .int) [(0, 10, 13, 13)] 4 := ⟨mt3 (List.mem_of_getElem? (i := 157) rfl), mt1 (List.mem_of_getElem? (i := 0) rfl), mt3 (List.mem_of_getElem? (i := 159) rfl), L_input_st, ⟨by decide, by decide⟩, by decide +kernel⟩
set_option maxHeartbeats 4000000 in
set_option maxRecDepth 100000 in
theorem L_inputS_m {l : Launch} {G : ax_G} (S : x_S) (M : x_M) (T : List va_E) (x0 x1 : Int32) (B : Nat → Nat) (val : Int32) (MI : x_S → List va_E → Prop) (hE : AM l VV G N_input_y N_input_c 4 (some .int) 1 0 0 [.ref 132, .int x0, .int x1] (x_hM S M T) (fun v h' => v = some (.int val) ∧ ∃ S' T', h' = x_hM S' M T' ∧ OT T' B ∧ MI S' T')) :
    AMH l VV G L_input_y L_input_c 5 (some .int) [(0, 10, 13, 13)] 2 0 0 [.ref 132, .int x0, .int x1, .ref 173] (x_hM S M T) (fun v h' => v = some (.int 0) ∧ ∃ S' T' w, h' = x_hM S' M (T'.set 0 (oC w)) ∧ w 0 = val.toInt64 ∧ MI S' T') := by
  refine AMH.of (pl := pl_L) (by decide) v_good fl_L_ok kl_L_ok nofun (Nat.le_of_ble_eq_true rfl) ?_
  intro p0v e0v s0v m0v args below meth c0v X htab hLS
  refine AW.run X L_input_d 0 5 rfl ?_
  refine AW.callV (As := [.int x0, .int x1]) X hE cb_L_24 rfl rfl N_input_im N_input_se rfl ⟨Nat.le_of_ble_eq_true rfl, Nat.le_of_ble_eq_true rfl⟩ (Nat.le_of_ble_eq_true rfl) ⟨Nat.le_of_ble_eq_true rfl, Nat.le_of_ble_eq_true rfl⟩ (L_input_d.d 5 rfl) (fun v h' q => ?_)
  obtain ⟨rfl, S', T', rfl, hO, hI⟩ := q
  obtain ⟨-, ⟨w0, e0⟩, -⟩ := hO
  refine AW.run X L_input_d 6 1 rfl ?_
  refine AW.last (t := 2) (n := 1) (j := 0) X (x_hMo e0) rfl (by decide) rfl (by decide) (by decide) (L_input_d.d 7 rfl) ?_
  refine AW.eq (h' := x_hM S' M (T'.set 0 (oC (vp_updL w0 0 val.toInt64)))) (x_hMs S' M T' _) ?_
  refine AW.goto X (L_input_d.d 8 rfl) ?_
  refine AW.run X L_input_d 12 1 rfl ?_
  exact AW.iret X (L_input_d.d 13 rfl) (Nat.le_of_ble_eq_true rfl) (Nat.le_of_ble_eq_true rfl) ⟨rfl, S', T', _, rfl, by simp [vp_updL], hI⟩

set_option maxHeartbeats 4000000 in
set_option maxRecDepth 100000 in
theorem L_inputT_m {l : Launch} {G : ax_G} (S : x_S) (M : x_M) (T : List va_E) (x0 x1 : Int32) (hT : AT l VV G N_input_y N_input_c 4 (some .int) 6 [.ref 132, .int x0, .int x1] (x_hM S M T) 10) :
    AMH l VV G L_input_y L_input_c 5 (some .int) [(0, 10, 13, 13)] 8 1 6 [.ref 132, .int x0, .int x1, .ref 173] (x_hM S M T) (fun v h' => v = some (.int 1) ∧ h' = x_hM S M (T ++ [.inr (10, [])])) := by
  refine AMH.of (pl := pl_L) (by decide) v_good fl_L_ok kl_L_ok nofun (Nat.le_of_ble_eq_true rfl) ?_
  intro p0v e0v s0v m0v args below meth c0v X htab hLS
  obtain ⟨x, hx, h1, h2, h3, h4⟩ := ax_tab1 htab
  refine AW.run X L_input_d 0 5 rfl ?_
  refine AW.callT (As := [.int x0, .int x1]) (T0 := Cl_EA) X hLS hT cb_L_24 rfl rfl N_input_im N_input_se rfl ⟨Nat.le_of_ble_eq_true rfl, Nat.le_of_ble_eq_true rfl⟩ (Nat.le_of_ble_eq_true rfl) ⟨Nat.le_of_ble_eq_true rfl, Nat.le_of_ble_eq_true rfl⟩ (L_input_d.d 5 rfl) [] x [] hx (fun k hk y hy => by cases hy) (cov_t h1 h2 ⟨by decide, by decide⟩) (by rw [h4]; decide) (by rw [h4]; exact mt1 (List.mem_of_getElem? (i := 204) rfl)) rfl (List.mem_of_getElem? (i := 0) rfl) ?_
  rw [h3]
  refine AW.run X L_input_d 9 2 rfl ?_
  exact AW.iret X (L_input_d.d 11 rfl) (Nat.le_of_ble_eq_true rfl) (Nat.le_of_ble_eq_true rfl) ⟨rfl, x_hMa S M T _⟩

theorem ch_L_74 : ax_CBH VV "NumberFunctionsLaw" 74 L_call_y L_call_c 4 (some .int) [(0, 9, 12, 31)] 3 := ⟨mt3 (List.mem_of_getElem? (i := 165) rfl), mt1 (List.mem_of_getElem? (i := 0) rfl), mt3 (List.mem_of_getElem? (i := 167) rfl), L_call_st, ⟨by decide, by decide⟩, by decide +kernel⟩
set_option maxHeartbeats 4000000 in
set_option maxRecDepth 100000 in
theorem L_callS_m {l : Launch} {G : ax_G} (S : x_S) (M : x_M) (T : List va_E) (x0 : Int32) (B : Nat → Nat) (val : Int32) (MI : x_S → List va_E → Prop) (hE : AM l VV G N_call_y N_call_c 4 (some .int) 31 0 0 [.ref 132, .int x0] (x_hM S M T) (fun v h' => v = some (.int val) ∧ ∃ S' T', h' = x_hM S' M T' ∧ OT T' B ∧ MI S' T')) :
    AMH l VV G L_call_y L_call_c 4 (some .int) [(0, 9, 12, 31)] 32 0 0 [.ref 132, .int x0, .ref 173] (x_hM S M T) (fun v h' => v = some (.int 0) ∧ ∃ S' T' w, h' = x_hM S' M (T'.set 0 (oC w)) ∧ w 0 = val.toInt64 ∧ MI S' T') := by
  refine AMH.of (pl := pl_L) (by decide) v_good fl_L_ok kl_L_ok nofun (Nat.le_of_ble_eq_true rfl) ?_
  intro p0v e0v s0v m0v args below meth c0v X htab hLS
  refine AW.run X L_call_d 0 4 rfl ?_
  refine AW.callV (As := [.int x0]) X hE cb_L_28 rfl rfl N_call_im N_call_se rfl ⟨Nat.le_of_ble_eq_true rfl, Nat.le_of_ble_eq_true rfl⟩ (Nat.le_of_ble_eq_true rfl) ⟨Nat.le_of_ble_eq_true rfl, Nat.le_of_ble_eq_true rfl⟩ (L_call_d.d 4 rfl) (fun v h' q => ?_)
  obtain ⟨rfl, S', T', rfl, hO, hI⟩ := q
  obtain ⟨-, ⟨w0, e0⟩, -⟩ := hO
  refine AW.run X L_call_d 5 1 rfl ?_
  refine AW.last (t := 2) (n := 1) (j := 0) X (x_hMo e0) rfl (by decide) rfl (by decide) (by decide) (L_call_d.d 6 rfl) ?_
  refine AW.eq (h' := x_hM S' M (T'.set 0 (oC (vp_updL w0 0 val.toInt64)))) (x_hMs S' M T' _) ?_
  refine AW.goto X (L_call_d.d 7 rfl) ?_
  refine AW.run X L_call_d 11 1 rfl ?_
  exact AW.iret X (L_call_d.d 12 rfl) (Nat.le_of_ble_eq_true rfl) (Nat.le_of_ble_eq_true rfl) ⟨rfl, S', T', _, rfl, by simp [vp_updL], hI⟩

set_option maxHeartbeats 4000000 in
set_option maxRecDepth 100000 in
theorem L_callT_m {l : Launch} {G : ax_G} (S : x_S) (M : x_M) (T : List va_E) (x0 : Int32) (hT : AT l VV G N_call_y N_call_c 4 (some .int) 6 [.ref 132, .int x0] (x_hM S M T) 12) :
    AMH l VV G L_call_y L_call_c 4 (some .int) [(0, 9, 12, 31)] 8 1 6 [.ref 132, .int x0, .ref 173] (x_hM S M T) (fun v h' => v = some (.int 1) ∧ h' = x_hM S M (T ++ [.inr (12, [])])) := by
  refine AMH.of (pl := pl_L) (by decide) v_good fl_L_ok kl_L_ok nofun (Nat.le_of_ble_eq_true rfl) ?_
  intro p0v e0v s0v m0v args below meth c0v X htab hLS
  obtain ⟨x, hx, h1, h2, h3, h4⟩ := ax_tab1 htab
  refine AW.run X L_call_d 0 4 rfl ?_
  refine AW.callT (As := [.int x0]) (T0 := Cl_EI) X hLS hT cb_L_28 rfl rfl N_call_im N_call_se rfl ⟨Nat.le_of_ble_eq_true rfl, Nat.le_of_ble_eq_true rfl⟩ (Nat.le_of_ble_eq_true rfl) ⟨Nat.le_of_ble_eq_true rfl, Nat.le_of_ble_eq_true rfl⟩ (L_call_d.d 4 rfl) [] x [] hx (fun k hk y hy => by cases hy) (cov_t h1 h2 ⟨by decide, by decide⟩) (by rw [h4]; decide) (by rw [h4]; exact mt3 (List.mem_of_getElem? (i := 168) rfl)) rfl (List.mem_of_getElem? (i := 4) rfl) ?_
  rw [h3]
  refine AW.run X L_call_d 8 2 rfl ?_
  exact AW.iret X (L_call_d.d 10 rfl) (Nat.le_of_ble_eq_true rfl) (Nat.le_of_ble_eq_true rfl) ⟨rfl, x_hMa S M T _⟩

theorem ch_L_77 : ax_CBH VV "NumberFunctionsLaw" 77 L_output_y L_output_c 4 (some .int) [(0, 9, 12, 13)] 3 := ⟨mt4 (List.mem_of_getElem? (i := 191) rfl), mt1 (List.mem_of_getElem? (i := 0) rfl), mt4 (List.mem_of_getElem? (i := 193) rfl), L_output_st, ⟨by decide, by decide⟩, by decide +kernel⟩
set_option maxHeartbeats 4000000 in
set_option maxRecDepth 100000 in
theorem L_outputS_m {l : Launch} {G : ax_G} (S : x_S) (M : x_M) (T : List va_E) (x0 : Int32) (B : Nat → Nat) (val : Int32) (MI : x_S → List va_E → Prop) (hE : AM l VV G N_output_y N_output_c 2 (some .int) 0 0 0 [.ref 132, .int x0] (x_hM S M T) (fun v h' => v = some (.int val) ∧ ∃ S' T', h' = x_hM S' M T' ∧ OT T' B ∧ MI S' T')) :
    AMH l VV G L_output_y L_output_c 4 (some .int) [(0, 9, 12, 13)] 1 0 0 [.ref 132, .int x0, .ref 173] (x_hM S M T) (fun v h' => v = some (.int 0) ∧ ∃ S' T' w, h' = x_hM S' M (T'.set 0 (oC w)) ∧ w 0 = val.toInt64 ∧ MI S' T') := by
  refine AMH.of (pl := pl_L) (by decide) v_good fl_L_ok kl_L_ok nofun (Nat.le_of_ble_eq_true rfl) ?_
  intro p0v e0v s0v m0v args below meth c0v X htab hLS
  refine AW.run X L_output_d 0 4 rfl ?_
  refine AW.callV (As := [.int x0]) X hE cb_L_33 rfl rfl N_output_im N_output_se rfl ⟨Nat.le_of_ble_eq_true rfl, Nat.le_of_ble_eq_true rfl⟩ (Nat.le_of_ble_eq_true rfl) ⟨Nat.le_of_ble_eq_true rfl, Nat.le_of_ble_eq_true rfl⟩ (L_output_d.d 4 rfl) (fun v h' q => ?_)
  obtain ⟨rfl, S', T', rfl, hO, hI⟩ := q
  obtain ⟨-, ⟨w0, e0⟩, -⟩ := hO
  refine AW.run X L_output_d 5 1 rfl ?_
  refine AW.last (t := 2) (n := 1) (j := 0) X (x_hMo e0) rfl (by decide) rfl (by decide) (by decide) (L_output_d.d 6 rfl) ?_
  refine AW.eq (h' := x_hM S' M (T'.set 0 (oC (vp_updL w0 0 val.toInt64)))) (x_hMs S' M T' _) ?_
  refine AW.goto X (L_output_d.d 7 rfl) ?_
  refine AW.run X L_output_d 11 1 rfl ?_
  exact AW.iret X (L_output_d.d 12 rfl) (Nat.le_of_ble_eq_true rfl) (Nat.le_of_ble_eq_true rfl) ⟨rfl, S', T', _, rfl, by simp [vp_updL], hI⟩

set_option maxHeartbeats 4000000 in
set_option maxRecDepth 100000 in
theorem L_outputT_m {l : Launch} {G : ax_G} (S : x_S) (M : x_M) (T : List va_E) (x0 : Int32) (hT : AT l VV G N_output_y N_output_c 2 (some .int) 6 [.ref 132, .int x0] (x_hM S M T) 10) :
    AMH l VV G L_output_y L_output_c 4 (some .int) [(0, 9, 12, 13)] 8 1 6 [.ref 132, .int x0, .ref 173] (x_hM S M T) (fun v h' => v = some (.int 1) ∧ h' = x_hM S M (T ++ [.inr (10, [])])) := by
  refine AMH.of (pl := pl_L) (by decide) v_good fl_L_ok kl_L_ok nofun (Nat.le_of_ble_eq_true rfl) ?_
  intro p0v e0v s0v m0v args below meth c0v X htab hLS
  obtain ⟨x, hx, h1, h2, h3, h4⟩ := ax_tab1 htab
  refine AW.run X L_output_d 0 4 rfl ?_
  refine AW.callT (As := [.int x0]) (T0 := Cl_EA) X hLS hT cb_L_33 rfl rfl N_output_im N_output_se rfl ⟨Nat.le_of_ble_eq_true rfl, Nat.le_of_ble_eq_true rfl⟩ (Nat.le_of_ble_eq_true rfl) ⟨Nat.le_of_ble_eq_true rfl, Nat.le_of_ble_eq_true rfl⟩ (L_output_d.d 4 rfl) [] x [] hx (fun k hk y hy => by cases hy) (cov_t h1 h2 ⟨by decide, by decide⟩) (by rw [h4]; decide) (by rw [h4]; exact mt1 (List.mem_of_getElem? (i := 204) rfl)) rfl (List.mem_of_getElem? (i := 0) rfl) ?_
  rw [h3]
  refine AW.run X L_output_d 8 2 rfl ?_
  exact AW.iret X (L_output_d.d 10 rfl) (Nat.le_of_ble_eq_true rfl) (Nat.le_of_ble_eq_true rfl) ⟨rfl, x_hMa S M T _⟩

