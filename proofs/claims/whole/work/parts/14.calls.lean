/-! RULES: new cells, calls, ends; 'AM': a method's contract over the abstract heap -/
def ax_Q (V : ax_V) (G : ax_G) (Qa : Option Value → List va_E → Prop) : Array Value → State → Outcome → State → Prop := fun _ _ o t =>
  ∃ (v : Option Value) (h' : List va_E), o = .returned (v.map (ax_v G.ph)) ∧ Qa v h' ∧ ax_H V G h' t.heap
def ax_R (d mc ms : Nat) : Room := { frames := d, cells := mc, slots := ms, locals := 40 * d }
/-- method y, on these arguments and this abstract heap: it returns, and the answer and the heap then satisfy Qa; d: how deep it calls; mc, ms: at most so many cells and slots come -/
def AM (l : Launch) (V : ax_V) (G : ax_G) (y : MethodName) (cc : ByteArray) (maxL : Nat) (ret : Option FieldType) (d mc ms : Nat) (As : List Value) (h : List va_E) (Qa : Option Value → List va_E → Prop) : Prop :=
  ax_I G → Met l y (.code y cc maxL ret :: V.ts) (ax_R d mc ms) (va_Pc (As.map (ax_v G.ph)) (fun U => ax_K V G U ∧ ax_H V G h U.heap)) (ax_Q V G Qa) mc ms (fun q => G.bs ≤ q)
theorem ax_args (ph : Nat → Nat) : ∀ (i : Nat) (vs : List Value), lv_args i (vs.map (ax_v ph)) = ax_lv ph (lv_args i vs)
  | _, [] => rfl
  | i, v :: r => by
    show (i, ax_v ph v) :: lv_args _ (r.map (ax_v ph)) = (i, ax_v ph v) :: ax_lv ph (lv_args _ r)
    rw [ax_cat, ax_args]
theorem ax_sl (ph : Nat → Nat) : ∀ vs : List Value, (lg_sl (vs.map (ax_v ph))).length = (lg_sl vs).length
  | [] => rfl
  | v :: r => by
    have ih := ax_sl ph r
    unfold lg_sl at ih ⊢
    rw [List.map_cons, List.flatMap_cons, List.flatMap_cons, List.length_append, List.length_append, ih, ax_cat]
    by_cases hc : v.category = 2 <;> simp [hc]
section AXC
variable {p : Program} {l : Launch} {e : Env} {R : Room} {s : State} {m : MethodId} {args : Array Value} {below : List Frame} {meth : Method} {c : Code} {V : ax_V} {G : ax_G} {cc : ByteArray} {nL : Nat} {own : String} {pl : ax_pool} {ret : Option FieldType} {cells slots : Nat} {Q : State → Prop}
variable {pc : Nat} {lv : List (Nat × Value)} {r : List Value} {h : List va_E} {a t n j : Nat} {i : Int32}
theorem AM.of {y : MethodName} {maxL d mc ms : Nat} {As : List Value} {Qa : Option Value → List va_E → Prop} (hy : plainName y.cls = true) (hG : GoodIn V.ts V.ts) (hF : ax_F V y.cls pl.1) (hPL : ax_PL V y.cls pl.2.1) (hini : pl.2.2 = true → y.name = "<init>") (hs : (lg_sl As).length ≤ maxL)
    (body : ∀ (p : Program) (e : Env) (s : State) (m : MethodId) (args : Array Value) (below : List Frame) (meth : Method) (c : Code), ax_X p m meth c s args V G cc maxL y.cls pl ret →
      AW p l e (ax_R d mc ms) s m args below meth c V G maxL h 0 0 (MQ below (ax_Q V G Qa) args s mc ms (fun q => G.bs ≤ q)) 0 (lv_args 0 As) []) : AM l V G y cc maxL ret d mc ms As h Qa := by
  intro hI
  refine Met.ofW (cc := cc) (maxL := maxL) (ret := ret) hy rfl ?_
  intro p e s m args below meth c s₁ B hml hv
  obtain ⟨rfl, hK, hH⟩ := hv
  have hts := atoms_spec (ws := .code y cc maxL ret :: V.ts) B.pre
  have X : ax_X p m meth c s ((As.map (ax_v G.ph)).toArray) V G cc maxL y.cls pl ret := ⟨B.exec, B.bytes, hml, findClass_of_methodNamed B.named, fun w hw => hts w (List.mem_cons_of_mem _ hw), hK, hI, hF, hPL, hG, B.notSynchronized, B.returns, fun q => (name_of_methodNamed B.named B.method).1.trans (hini q)⟩
  have hl := lv_entry (As.map (ax_v G.ph)) (n := maxL) (by rw [ax_sl]; exact hs)
  rw [lg_entry_eq]
  generalize (lg_sl (As.map (ax_v G.ph)) ++ List.replicate (maxL - (lg_sl (As.map (ax_v G.ph))).length) Slot.unset).toArray = ls at hl ⊢
  rw [ax_args] at hl
  exact body p e s m _ below meth c X s.heap [] ls hH (fun q hq => by cases hq) hl
theorem AW.widen {k n : Nat} (h1 : cells ≤ k) (h2 : slots ≤ n) (kk : AW p l e R s m args below meth c V G nL h k n Q pc lv r) : AW p l e R s m args below meth c V G nL h cells slots Q pc lv r := fun H locs ls hH hl hv => W.widen h1 h2 (kk H locs ls hH hl hv)
theorem AW.eq {h' : List va_E} (e1 : h = h') (kk : AW p l e R s m args below meth c V G nL h' cells slots Q pc lv r) : AW p l e R s m args below meth c V G nL h cells slots Q pc lv r := e1 ▸ kk
/-- the locals may be forgotten and ordered anew -/
theorem AW.sub {lv' : List (Nat × Value)} (e1 : ∀ q ∈ lv', q ∈ lv) (kk : AW p l e R s m args below meth c V G nL h cells slots Q pc lv' r) : AW p l e R s m args below meth c V G nL h cells slots Q pc lv r := fun H locs ls hH hl hv => kk H locs ls hH hl ⟨hv.1, hv.2.1, fun q hq => by
  obtain ⟨q1, h1, h2⟩ := List.mem_map.mp hq
  exact hv.2.2 q (List.mem_map.mpr ⟨q1, e1 q1 h1, h2⟩)⟩
theorem AW.new (X : ax_X p m meth c s args V G cc nL own pl ret) {idx ci N : Nat} {C : String} {T : u_T} {fs : List Value} {ty : Nat → FieldType} (hc : V.cl[ci]? = some (C, T, N)) (hlay : ∀ w ∈ u_ws C T N, w ∈ V.ts) (hty : ∀ k, k < N → parseFieldDescriptor (T k).2.2.1 = some (ty k)) (hlink : Cond.classLink own idx C ∈ V.ts) (hinst : Cond.instantiable C N ∈ V.ts) (hini : Cond.initialized C ∈ V.ts) (hfs : ∀ j, j < N → defaultValue (ty j) = vp_V (fs.map (ax_v G.ph)) j) (hcells : cells + 1 ≤ R.cells) (hslots : slots + N ≤ R.slots) (hd : decode cc pc = .ok (.new idx, 3)) (kk : AW p l e R s m args below meth c V G nL (h ++ [.inr (ci, fs)]) (cells + 1) (slots + N) Q (pc + 3) lv (.ref h.length :: r)) : AW p l e R s m args below meth c V G nL h cells slots Q pc lv r := by
  intro H locs ls hH hl hv
  have hKn := X.k.u hc (X.ts _ hinst)
  refine W.newcK X.x X.b X.ow (X.ts _ hlink) (X.ts _ hinst) (X.ts _ hini) rfl hd hcells hslots hKn.2.1 rfl fun H1 kC hkC e1 z1 o1 => ?_
  obtain ⟨g1, g2⟩ := ax_new (c := .inr (ci, fs)) X.i hH ⟨_, hc, (u_born ty X.ts hlay hKn hkC e1 hty).to hfs⟩ z1 o1
  have k1 := kk H1 locs ls g1 hl hv
  rw [List.map_cons, show ax_v G.ph (.ref h.length) = .ref (G.ph h.length) from rfl, g2] at k1
  exact k1
theorem AW.newa (X : ax_X p m meth c s args V G cc nL own pl ret) {atype : ArrayType} {x : Int32} {N : Nat} {a0 : (Nat → Int32) ⊕ (Nat → Int64) ⊕ (Nat → UInt32) ⊕ (Nat → UInt64) ⊕ (Nat → Option Nat)} (harr : Cond.arrayClass (newarray.typeOf atype) ∈ V.ts) (ht : V.tl[t]? = some (newarray.typeOf atype)) (ha : ∀ cA : ClassId, vp_cell cA (ax_a G.ph (N, a0)) = arrV cA N (fun _ => defaultValue (newarray.typeOf atype))) (hx : x = nI N) (hN : N < 2 ^ 16) (hcells : cells + 1 ≤ R.cells) (hslots : slots + N ≤ R.slots) (hprim : ∀ (cA : ClassId) (U : State), va_RA U cA (newarray.typeOf atype) → U.vm.findClass ("[" ++ (newarray.typeOf atype).toString) = some cA) (hd : decode cc pc = .ok (.newarray atype, 2)) (kk : AW p l e R s m args below meth c V G nL (h ++ [.inl (t, N, a0)]) (cells + 1) (slots + N) Q (pc + 2) lv (.ref h.length :: r)) : AW p l e R s m args below meth c V G nL h cells slots Q pc lv (.int x :: r) := by
  intro H locs ls hH hl hv
  subst hx
  refine va_newaK X.x X.b (X.ts _ harr) rfl hd (n := nI N) (N := N) rfl (nI_pos (by omega)) (nI_clamp (by omega)) (by have : componentBytes (newarray.typeOf atype) ≤ 8 := (by cases atype <;> decide); calc _ ≤ N * 8 := Nat.mul_le_mul_left _ this
    _ ≤ _ := by omega) hcells hslots rfl fun H1 cA e1 z1 o1 hA hfc => ?_
  have hcA : cA = G.ca t := Option.some.inj (hfc.symm.trans (hprim _ _ (X.k.2.1 t _ ht).2))
  subst hcA
  obtain ⟨g1, g2⟩ := ax_new (c := .inl (t, N, a0)) X.i hH (by show H1[H.size]? = some (vp_cell (G.ca t) (ax_a G.ph (N, a0))); rw [ha]; exact e1) z1 o1
  have k1 := kk H1 locs ls g1 hl hv
  rw [List.map_cons, show ax_v G.ph (.ref h.length) = .ref (G.ph h.length) from rfl, g2] at k1
  exact k1
theorem AW.objInit (X : ax_X p m meth c s args V G cc nL own pl ret) {idx : Nat} (hlink : Cond.methodLink own idx Lib.objectInit ∈ V.ts) (hinst : Cond.instanceMethod Lib.objectInit ∈ V.ts) (hcode : Cond.code Lib.objectInit ⟨#[0xb1]⟩ 1 none ∈ V.ts) (hd : decode cc pc = .ok (.invokespecial idx, 3)) (hframes : 1 ≤ R.frames) (hlocals : 20 ≤ R.locals) (hr : (r.map fun v => v.category).sum ≤ 8) (kk : AW p l e R s m args below meth c V G nL h cells slots Q (pc + 3) lv r) : AW p l e R s m args below meth c V G nL h cells slots Q pc lv (.ref a :: r) := by
  intro H locs ls hH hl hv
  refine W.objInit X.x X.b X.ow (X.ts _ hlink) (X.ts _ hinst) (X.ts _ hcode) rfl (by rw [X.ml]; exact hv.1) rfl hd hframes ?_ (kk H locs ls hH hl hv)
  have h1 := lv_room (m := m) (pc := pc) (ls := ls) (rest := (.ref a :: r).map (ax_v G.ph)) (st := r.map (ax_v G.ph)) (by rw [List.map_map]; exact (congrArg (fun f => (r.map f).sum) (funext fun v => ax_cat G.ph v)) ▸ hr)
  exact Nat.le_trans (Nat.add_le_add_right h1 12) hlocals
/-- what a call rests on -/
def ax_CB (V : ax_V) (own : String) (index : Nat) (y : MethodName) (bytes : ByteArray) (maxL : Nat) (ret : Option FieldType) (n : Nat) : Prop :=
  Cond.methodLink own index y ∈ V.ts ∧ Cond.initialized y.cls ∈ V.ts ∧ Cond.code y bytes maxL ret ∈ V.ts ∧ (y.cls ≠ "java/lang/invoke/MethodHandle" ∧ y.cls ≠ "java/lang/invoke/VarHandle" ∧ (parseMethodDescriptor y.desc).map (fun d => d.parameters.length) = some n)
theorem ax_CB.b (X : ax_X p m meth c s args V G cc nL own pl ret) {index : Nat} {y : MethodName} {bytes : ByteArray} {maxL d mc ms : Nat} {ret' : Option FieldType} (hw : ax_CB V own index y bytes maxL ret' n) (hR : d + 1 ≤ R.frames ∧ 19 + maxL + 40 * d ≤ R.locals) : CallB R s args own index y bytes maxL ret' (.code y bytes maxL ret' :: V.ts) (ax_R d mc ms) mc ms n := by
  obtain ⟨h1, h2, h3, h4⟩ := hw
  refine callB_of n X.ts (fun w hw => ?_) rfl rfl rfl (X.ts _ h2) (X.ts _ h1) h4 ⟨hR.1, ?_⟩
  · rcases List.mem_cons.mp hw with e1 | e1
    · rw [e1]; exact X.gd _ h3
    · exact X.gd _ e1
  · show 8 + (maxL + 11) + 40 * d ≤ R.locals
    omega
theorem ax_blind {As : List Value} : FrameBlind (va_Pc (As.map (ax_v G.ph)) (fun U => ax_K V G U ∧ ax_H V G h U.heap)) := fun a U g mk q => ⟨q.1, q.2.1.moved (U := U.calling g mk a) (State.WarmedH.refl U), q.2.2⟩
theorem AW.callR {mc ms : Nat} {Qa : Option Value → List va_E → Prop} {st : List Value} {a' : Array Value} (hr : ∀ (H : Heap) (locs : List Loc) (ls : Array Slot), ax_H V G h H → lv_has ls nL (ax_lv G.ph lv) → va_Run p l e R s m args below meth c H locs cells slots mc ms (F0 m pc ls (st.map (ax_v G.ph))) (r.map (ax_v G.ph)) (ax_Q V G Qa a') (fun q => G.bs ≤ q))
    (kk : ∀ (v : Option Value) (h' : List va_E), Qa v h' → AW p l e R s m args below meth c V G nL h' (cells + mc) (slots + ms) Q (pc + 3) lv (v.toList ++ r)) : AW p l e R s m args below meth c V G nL h cells slots Q pc lv st := by
  intro H locs ls hH hl hv T hT X0
  obtain ⟨v, st₀, t, T', L, h0, X', hL, e1, e2, ⟨v', h', hv', hq, hH'⟩, st1⟩ := hr H locs ls hH hv T hT X0
  cases hv'
  obtain ⟨t2, a1, b1⟩ := kk v' h' hq t.heap (locs ++ L) ls hH' (fun q hq => by
    rcases List.mem_append.mp hq with z | z
    · exact hl q z
    · exact hL q z) hv T' e1 X'
  refine ⟨t2, st1 t2 ?_, b1⟩
  have e3 : (v'.map (ax_v G.ph)).toList ++ r.map (ax_v G.ph) = (v'.toList ++ r).map (ax_v G.ph) := by cases v' <;> rfl
  show Steps p.tables e below (T'.setTop (F0 m (pc + 3) ls ((v'.map (ax_v G.ph)).toList ++ r.map (ax_v G.ph)))) t2
  rw [e3]
  exact a1
theorem ax_rm8 {ls : Array Slot} {st : List Value} (hr : (r.map fun v => v.category).sum ≤ 8) : 2 * (F0 m pc ls st).monitorRoom + ((r.map (ax_v G.ph)).map fun v => v.category).sum ≤ 8 :=
  lv_room (by rw [List.map_map]; exact (congrArg (fun f => (r.map f).sum) (funext fun v => ax_cat G.ph v)) ▸ hr)
theorem AW.callS (X : ax_X p m meth c s args V G cc nL own pl ret) {index : Nat} {y : MethodName} {bytes : ByteArray} {maxL d mc ms : Nat} {ret' : Option FieldType} {As : List Value} {Qa : Option Value → List va_E → Prop} (hM : AM l V G y bytes maxL ret' d mc ms As h Qa) (hw : ax_CB V own index y bytes maxL ret' n) (hst : Cond.static y ∈ V.ts) (hn : As.length = n) (hR : d + 1 ≤ R.frames ∧ 19 + maxL + 40 * d ≤ R.locals) (hr : (r.map fun v => v.category).sum ≤ 8) (hf : cells + mc ≤ R.cells ∧ slots + ms ≤ R.slots) (hd : decode cc pc = .ok (.invokestatic index, 3))
    (kk : ∀ (v : Option Value) (h' : List va_E), Qa v h' → AW p l e R s m args below meth c V G nL h' (cells + mc) (slots + ms) Q (pc + 3) lv (v.toList ++ r)) : AW p l e R s m args below meth c V G nL h cells slots Q pc lv (As.reverse ++ r) :=
  AW.callR (fun H locs ls hH hv => va_runS (As := As.map (ax_v G.ph)) ⟨X.x, X.b, X.ml, X.ow, X.ts⟩ (hM X.i) ⟨hw.b X hR, X.ts _ hst⟩ ⟨ax_blind, fun U hU hW => ⟨rfl, X.k.moved hW, by rw [hU]; exact hH⟩⟩ rfl (by rw [List.length_map]; exact hn) hv.1 (by rw [List.map_append, List.map_reverse]) (ax_rm8 hr) hd hf) kk
theorem AW.callI (X : ax_X p m meth c s args V G cc nL own pl ret) {index : Nat} {y : MethodName} {bytes : ByteArray} {maxL d mc ms : Nat} {As : List Value} {Qa : Option Value → List va_E → Prop} (hM : AM l V G y bytes maxL none d mc ms (.ref a :: As) h Qa) (hw : ax_CB V own index y bytes maxL none n) (hy : y.name = "<init>") (hin : Cond.instanceMethod y ∈ V.ts) (hn : As.length = n) (hR : d + 1 ≤ R.frames ∧ 19 + maxL + 40 * d ≤ R.locals) (hr : (r.map fun v => v.category).sum ≤ 8) (hf : cells + mc ≤ R.cells ∧ slots + ms ≤ R.slots) (hd : decode cc pc = .ok (.invokespecial index, 3))
    (kk : ∀ (v : Option Value) (h' : List va_E), Qa v h' → AW p l e R s m args below meth c V G nL h' (cells + mc) (slots + ms) Q (pc + 3) lv (v.toList ++ r)) : AW p l e R s m args below meth c V G nL h cells slots Q pc lv (As.reverse ++ .ref a :: r) :=
  AW.callR (fun H locs ls hH hv => va_runI (b := G.ph a) (As := As.map (ax_v G.ph)) ⟨X.x, X.b, X.ml, X.ow, X.ts⟩ (hM X.i) ⟨hw.b X hR, hy, X.ts _ hin⟩ ⟨ax_blind (As := .ref a :: As), fun U hU hW => ⟨rfl, X.k.moved hW, by rw [hU]; exact hH⟩⟩ rfl (by rw [List.length_map]; exact hn) hv.1 (by rw [List.map_append, List.map_reverse]; rfl) (ax_rm8 hr) hd hf) kk
theorem AW.callV (X : ax_X p m meth c s args V G cc nL own pl ret) {index ci : Nat} {y : MethodName} {bytes : ByteArray} {maxL d mc ms : Nat} {ret' : Option FieldType} {As fs : List Value} {rc : vw_C} {Qa : Option Value → List va_E → Prop} (hM : AM l V G y bytes maxL ret' d mc ms (.ref a :: As) h Qa) (hw : ax_CB V own index y bytes maxL ret' n) (ha : h[a]? = some (.inr (ci, fs))) (hc : V.cl[ci]? = some rc) (hin : Cond.instanceMethod y ∈ V.ts) (hse : Cond.selects rc.1 y y ∈ V.ts) (hn : As.length = n) (hR : d + 1 ≤ R.frames ∧ 19 + maxL + 40 * d ≤ R.locals) (hr : (r.map fun v => v.category).sum ≤ 8) (hf : cells + mc ≤ R.cells ∧ slots + ms ≤ R.slots) (hd : decode cc pc = .ok (.invokevirtual index, 3))
    (kk : ∀ (v : Option Value) (h' : List va_E), Qa v h' → AW p l e R s m args below meth c V G nL h' (cells + mc) (slots + ms) Q (pc + 3) lv (v.toList ++ r)) : AW p l e R s m args below meth c V G nL h cells slots Q pc lv (As.reverse ++ .ref a :: r) :=
  AW.callR (fun H locs ls hH hv => va_runV (C := rc.1) (b := G.ph a) (As := As.map (ax_v G.ph)) ⟨X.x, X.b, X.ml, X.ow, X.ts⟩ (hM X.i) ⟨hw.b X hR, X.ts _ hin, X.ts _ hse⟩ ⟨ax_blind (As := .ref a :: As), ax_recv X.k hH ha hc, fun U hU hW => ⟨rfl, X.k.moved hW, by rw [hU]; exact hH⟩⟩ rfl (by rw [List.length_map]; exact hn) hv.1 (by rw [List.map_append, List.map_reverse]; rfl) (ax_rm8 hr) hd hf) kk
theorem AW.iret (X : ax_X p m meth c s args V G cc nL own pl (some .int)) {mc ms : Nat} {Qa : Option Value → List va_E → Prop}  (hd : decode cc pc = .ok (.ireturn, 1)) (h1 : cells ≤ mc) (h2 : slots ≤ ms) (hq : Qa (some (.int i)) h) : AW p l e R s m args below meth c V G nL h cells slots (MQ below (ax_Q V G Qa) args s mc ms (fun q => G.bs ≤ q)) pc lv [.int i] := by
  intro H locs ls hH hl hv
  refine W.widen h1 h2 ?_
  exact W.iret X.x X.b X.rt (fun t ht _ => ⟨some (.int i), h, rfl, hq, by rw [ht]; exact hH⟩) hl hd X.lk
theorem AW.lret (X : ax_X p m meth c s args V G cc nL own pl (some .long)) {mc ms : Nat} {Qa : Option Value → List va_E → Prop} {x : Int64} (hd : decode cc pc = .ok (.lreturn, 1)) (h1 : cells ≤ mc) (h2 : slots ≤ ms) (hq : Qa (some (.long x)) h) : AW p l e R s m args below meth c V G nL h cells slots (MQ below (ax_Q V G Qa) args s mc ms (fun q => G.bs ≤ q)) pc lv [.long x] := by
  intro H locs ls hH hl hv
  refine W.widen h1 h2 ?_
  exact W.lret X.x X.b X.rt (fun t ht _ => ⟨some (.long x), h, rfl, hq, by rw [ht]; exact hH⟩) hl hd X.lk
theorem AW.vret (X : ax_X p m meth c s args V G cc nL own pl none) {mc ms : Nat} {Qa : Option Value → List va_E → Prop}  (hd : decode cc pc = .ok (.return_, 1)) (h1 : cells ≤ mc) (h2 : slots ≤ ms) (hq : Qa none h) : AW p l e R s m args below meth c V G nL h cells slots (MQ below (ax_Q V G Qa) args s mc ms (fun q => G.bs ≤ q)) pc lv [] := by
  intro H locs ls hH hl hv
  refine W.widen h1 h2 ?_
  exact W.vret X.x X.b X.rt (fun t ht _ => ⟨none, h, rfl, hq, by rw [ht]; exact hH⟩) hl hd X.lk
theorem AW.zret (X : ax_X p m meth c s args V G cc nL own pl (some .boolean)) {mc ms : Nat} {Qa : Option Value → List va_E → Prop} (hz : narrow .boolean (.int i) = .int i) (hd : decode cc pc = .ok (.ireturn, 1)) (h1 : cells ≤ mc) (h2 : slots ≤ ms) (hq : Qa (some (.int i)) h) : AW p l e R s m args below meth c V G nL h cells slots (MQ below (ax_Q V G Qa) args s mc ms (fun q => G.bs ≤ q)) pc lv [.int i] := by
  intro H locs ls hH hl hv
  refine W.widen h1 h2 ?_
  exact W.zret X.x X.b X.rt hz (fun t ht _ => ⟨some (.int i), h, rfl, hq, by rw [ht]; exact hH⟩) hl hd X.lk
theorem AW.aret {C : String} (X : ax_X p m meth c s args V G cc nL own pl (some (.object C))) {mc ms : Nat} {Qa : Option Value → List va_E → Prop} (x : Option Nat) (hd : decode cc pc = .ok (.areturn, 1)) (h1 : cells ≤ mc) (h2 : slots ≤ ms) (hq : Qa (some (va_rf x)) h) : AW p l e R s m args below meth c V G nL h cells slots (MQ below (ax_Q V G Qa) args s mc ms (fun q => G.bs ≤ q)) pc lv [va_rf x] := by
  intro H locs ls hH hl hv
  refine W.widen h1 h2 ?_
  exact W.aret (v := ax_v G.ph (va_rf x)) X.x X.b X.rt (Or.inl ⟨_, rfl⟩) (by cases x; exact Or.inl rfl; exact Or.inr ⟨_, rfl⟩) (fun t ht _ => ⟨some (va_rf x), h, rfl, hq, by rw [ht]; exact hH⟩) hl hd X.lk
theorem AW.aretA {C : FieldType} (X : ax_X p m meth c s args V G cc nL own pl (some (.array C))) {mc ms : Nat} {Qa : Option Value → List va_E → Prop} (x : Option Nat) (hd : decode cc pc = .ok (.areturn, 1)) (h1 : cells ≤ mc) (h2 : slots ≤ ms) (hq : Qa (some (va_rf x)) h) : AW p l e R s m args below meth c V G nL h cells slots (MQ below (ax_Q V G Qa) args s mc ms (fun q => G.bs ≤ q)) pc lv [va_rf x] := by
  intro H locs ls hH hl hv
  refine W.widen h1 h2 ?_
  exact W.aret (v := ax_v G.ph (va_rf x)) X.x X.b X.rt (Or.inr ⟨_, rfl⟩) (by cases x; exact Or.inl rfl; exact Or.inr ⟨_, rfl⟩) (fun t ht _ => ⟨some (va_rf x), h, rfl, hq, by rw [ht]; exact hH⟩) hl hd X.lk
end AXC
