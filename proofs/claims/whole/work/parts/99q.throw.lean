/-! THROWS: a method that throws a new object; a method that catches it -/
section AXTH
variable {p : Program} {l : Launch} {e : Env} {R : Room} {s : State} {m : MethodId} {args : Array Value} {below : List Frame} {meth : Method} {c : Code} {V : ax_V} {G : ax_G} {cc : ByteArray} {nL : Nat} {own : String} {pl : ax_pool} {ret : Option FieldType} {cells slots : Nat} {Q : State → Prop}
variable {pc : Nat} {lv : List (Nat × Value)} {r : List Value} {h : List va_E} {a t n j : Nat} {i : Int32} {T : State} {locs : List Loc}
/-- a static field that its class lays: what never changes of it -/
def ax_ls (C n d : String) (A : Nat → Prop) (U : State) (H : Heap) : Prop := ∃ (c : ClassId) (k : Class) (fi : Nat) (f : Field) (a : Nat) (cell : Cell), U.vm.findClass C = some c ∧ U.fieldFound? C n d = some (c, k, fi, f) ∧ k.statics = some a ∧ H[a]? = some cell ∧ ¬ A a ∧ f.isStatic = true ∧ cell.vm.isStatics = true ∧ cell.cls = c ∧ f.slot < cell.slots.size ∧ k.staticTypes[f.slot]? = some f.type
theorem ax_ls.moved {C n d : String} {A : Nat → Prop} {u U : State} {H : Heap} (hvm : u.vm.Alike U.vm) (h : ax_ls C n d A u H) : ax_ls C n d A U H := by
  obtain ⟨c, k, fi, f, a, cell, h0, h1, h2, h3⟩ := h
  obtain ⟨k', hi', he⟩ := State.fieldFound?_setVm hvm h1
  exact ⟨c, k', fi, f, a, cell, by rw [hvm.findClass]; exact h0, hi', by rw [he]; exact h2, h3.1, h3.2.1, h3.2.2.1, h3.2.2.2.1, h3.2.2.2.2.1, h3.2.2.2.2.2.1, by rw [he]; exact h3.2.2.2.2.2.2⟩
theorem ax_ls.word {C n d : String} {A : Nat → Prop} {U : State} {H : Heap} {args : Array Value} (h : ax_ls C n d A U H) (hH : ∀ q, ¬ A q → U.heap[q]? = H[q]?) : (Cond.laysStatic C n d).before args U = true := by
  obtain ⟨c, k, fi, f, a, cell, h0, h1, h2, h3, h4, h5, h6, h7, h8, h9⟩ := h
  have h3' : U.heap[a]? = some cell := (hH a h4).trans h3
  simp [Cond.before, Cond.holds, Cond.value, h0, h1, h2, h3', h5, h6, h7, h8, h9]
def ax_LS (G : ax_G) (U : State) : Prop := ax_ls "java/lang/Throwable" "UNASSIGNED_STACK" "[Ljava/lang/StackTraceElement;" (fun q => G.bs ≤ q) U G.H0 ∧ ax_ls "java/lang/Throwable" "SUPPRESSED_SENTINEL" "Ljava/util/List;" (fun q => G.bs ≤ q) U G.H0 ∧ va_Zq "java/lang/Throwable" "UNASSIGNED_STACK" "[Ljava/lang/StackTraceElement;" (fun q => G.bs ≤ q) U G.H0 ∧ va_Zq "java/lang/Throwable" "SUPPRESSED_SENTINEL" "Ljava/util/List;" (fun q => G.bs ≤ q) U G.H0
theorem ax_LS.moved {G : ax_G} {u U : State} (hW : u.WarmedH U.vm) (h : ax_LS G u) : ax_LS G U := ⟨h.1.moved hW.alike, h.2.1.moved hW.alike, h.2.2.1.moved hW.alike, h.2.2.2.moved hW.alike⟩
/-- the state at hand, taken for the start -/
def ax_st (s T : State) : State := ({ s with heap := T.heap, slotsUsed := T.slotsUsed } : State).setVm T.vm
theorem ax_anew (X : Stand p l e R s m args below meth c T locs 0 0) : Stand p l e R (ax_st s T) m args below meth c T [] 0 0 := by
  have Y := X.rebased (vm' := T.vm) (Vm.Akin.of_alike X.warmed.alike)
  have hF : (ax_st s T).frames = .invoking m args :: below := X.frames
  have hm : (ax_st s T).vm.method? m = some meth := Y.method
  have hU : (ax_st s T).localsInUse = s.localsInUse := by rw [State.localsInUse_invoking hF hm X.code, State.localsInUse_invoking X.frames X.method X.code]
  have hc := X.heapSize
  have hs := X.used
  have hh : (ax_st s T).hears m below = true := by
    have h := Y.hears
    cases hb : below with
    | nil => rw [hb] at h; exact h
    | cons f r =>
      rw [hb] at h
      cases f <;> exact h
  have hroom : (ax_st s T).hasRoom e.platform R = true := by
    have h0 := X.room
    have hf : (ax_st s T).frames.length = s.frames.length := by rw [hF, X.frames]
    have hb : (ax_st s T).slotsTrue = true := X.book
    have h1 : (ax_st s T).heap.size = T.heap.size := rfl
    have h2 : (ax_st s T).slotsUsed = T.slotsUsed := rfl
    have h3 : (ax_st s T).me = s.me := rfl
    simp only [State.hasRoom, Bool.and_eq_true, decide_eq_true_eq] at h0 ⊢
    obtain ⟨⟨⟨⟨a0, a1, a2, a3, a4, a5⟩, b1⟩, c1⟩, -⟩ := h0
    rw [hf, hU, h1, h2, h3]
    exact ⟨⟨⟨⟨a0, a1, a2, a3, a4, a5⟩, by omega⟩, by omega⟩, hb⟩
  have he := X.same.1
  refine ⟨X.admits, X.cas, X.clock, hF, hroom, hh, hm, X.code, X.here, X.tail, State.WarmedH.refl _, X.limits, X.bytes, ?_, Nat.le_refl _, Nat.le_add_right _ _, ?_, ?_, fun a c hc => ⟨c, hc, rfl, rfl, fun _ _ => rfl⟩⟩
  · show T = _
    have h1 : T = (T.setVm s.vm).setVm T.vm := rfl
    rw [he] at h1
    exact h1
  · show T.slotsUsed = T.slotsUsed + ((T.heap.toList.drop T.heap.size).map (·.slots.size)).sum
    rw [List.drop_of_length_le (by rw [Array.length_toList]; exact Nat.le_refl _)]
    rfl
  · show ((T.heap.toList.drop T.heap.size).map (·.slots.size)).sum ≤ 0
    rw [List.drop_of_length_le (by rw [Array.length_toList]; exact Nat.le_refl _)]
    exact Nat.le_refl _
/-- what is said of an end by a throw -/
def ax_FE (first : State) (o : Outcome) (t : State) (L : List Loc) (k n : Nat) : Prop := (∃ x, o = .threw x) ∧ first.WarmedH t.vm ∧ first.sameButNew ({ t with vm := first.vm } : State) L k n
def MQT (below : List Frame) (Qc : Array Value → State → Outcome → State → Prop) (a : Array Value) (s : State) (mc ms : Nat) (free : Addr → Prop) : State → Prop := fun t => ∃ o, t.status = .running ∧ Ended t below o ∧ Qc a s o t ∧ ∃ L, ax_FE s o t L mc ms ∧ ∀ q ∈ L, free q.base
def ax_QT (V : ax_V) (G : ax_G) (ci : Nat) (h : List va_E) : Array Value → State → Outcome → State → Prop := fun _ _ o t => o = .threw (G.ph h.length) ∧ ax_H V G (h ++ [.inr (ci, [])]) t.heap
/-- method y, on these arguments and this abstract heap, throws a new object of the class ci; nothing else is changed -/
def AT (l : Launch) (V : ax_V) (G : ax_G) (y : MethodName) (cc : ByteArray) (maxL : Nat) (ret : Option FieldType) (d : Nat) (As : List Value) (h : List va_E) (ci : Nat) : Prop :=
  ax_I G → MetFree l y (headSpec (.code y cc maxL ret :: V.ts) (ax_R d 1 6)) (va_Pc (As.map (ax_v G.ph)) (fun U => (ax_K V G U ∧ ax_H V G h U.heap) ∧ ax_LS G U)) (fun _ _ _ _ _ => True) (fun a st o t => ax_QT V G ci h a st o t ∧ ∃ L, ax_FE st o t L 1 6 ∧ ∀ q ∈ L, G.bs ≤ q.base)
theorem AT.of {y : MethodName} {maxL d ci : Nat} {As : List Value} (hy : plainName y.cls = true) (hG : GoodIn V.ts V.ts) (hF : ax_F V y.cls pl.1) (hPL : ax_PL V y.cls pl.2.1) (hini : pl.2.2 = true → y.name = "<init>") (hs : (lg_sl As).length ≤ maxL)
    (body : ∀ (p : Program) (e : Env) (s : State) (m : MethodId) (args : Array Value) (below : List Frame) (meth : Method) (c : Code), ax_X p m meth c s args V G cc maxL y.cls pl ret → c.exceptionTable.isEmpty = true → ax_LS G s →
      AW p l e (ax_R d 1 6) s m args below meth c V G maxL h 0 0 (MQT below (ax_QT V G ci h) args s 1 6 (fun q => G.bs ≤ q)) 0 (lv_args 0 As) []) : AT l V G y cc maxL ret d As h ci := by
  intro hI
  refine MetFree.of_bodyS (code := cc) (maxLocals := maxL) (ret := ret) hy ?_ ?_
  · intro args s m h hn
    obtain ⟨meth, c, h1, h2, h3, h4, h5, h6, -, -⟩ := Cond.code_spec hn (atoms_spec (ws := .code y cc maxL ret :: V.ts) h _ List.mem_cons_self)
    exact ⟨meth, c, h1, h2, h3, h4, h5, h6⟩
  · intro p e s m args below meth c s₁ B hml hv _
    obtain ⟨rfl, ⟨hK, hH⟩, hLS⟩ := hv
    have hts := atoms_spec (ws := .code y cc maxL ret :: V.ts) B.pre
    have X : ax_X p m meth c s ((As.map (ax_v G.ph)).toArray) V G cc maxL y.cls pl ret := ⟨B.exec, B.bytes, hml, findClass_of_methodNamed B.named, fun w hw => hts w (List.mem_cons_of_mem _ hw), hK, hI, hF, hPL, hG, B.notSynchronized, B.returns, fun q => (name_of_methodNamed B.named B.method).1.trans (hini q)⟩
    have hne : c.exceptionTable.isEmpty = true := B.noHandlers (hts _ List.mem_cons_self)
    have hh0 : s₁.heap = s.heap := by rw [B.state]; rfl
    have hl := lv_entry (As.map (ax_v G.ph)) (n := maxL) (by rw [ax_sl]; exact hs)
    have key : W p l e (ax_R d 1 6) s m ((As.map (ax_v G.ph)).toArray) below meth c s.heap [] 0 0 (MQT below (ax_QT V G ci h) ((As.map (ax_v G.ph)).toArray) s 1 6 (fun q => G.bs ≤ q)) (entryFrame m ((As.map (ax_v G.ph)).toArray) maxL) := by
      rw [lg_entry_eq]
      generalize (lg_sl (As.map (ax_v G.ph)) ++ List.replicate (maxL - (lg_sl (As.map (ax_v G.ph))).length) Slot.unset).toArray = ls at hl ⊢
      rw [ax_args] at hl
      exact body p e s m _ below meth c X hne hLS s.heap [] ls hH (fun q hq => by cases hq) hl
    obtain ⟨t, a1, o, b1, b2, b3⟩ := key s₁ hh0 (Stand.of_body B)
    exact ⟨t, o, a1, b1, b2, b3⟩
/-- what the making of the thrown object rests on -/
theorem ax_K.ct (hK : ax_K V G s) {x y : String} (hz : (x, y) ∈ V.ct) : (Cond.castable x y).before args s = true := va_tabs rfl rfl (hK.2.2.2.2.1 _ hz)
theorem ax_K.dc (hK : ax_K V G s) {y : MethodName} (hz : y ∈ V.dc) : (Cond.declares y).before args s = true := va_tabs rfl rfl (hK.2.2.2.2.2.1 _ hz)
theorem ax_zq {C x d : String} (hq : va_Zq C x d (fun q => G.bs ≤ q) s G.H0) (hH : ax_H V G h s.heap) : (Cond.isRef (.static C x d)).before args s = true := by
  rcases hq with ⟨cf, kf, fi, f, a, cell, h1, h2, h3, h4, h5, h6, h7, h8⟩ | ⟨t, cf, kf, fi, f, a, cell, h1, h2, h3, h4, h5, h6, h7, h8⟩
  · have h5' : s.heap[a]? = some cell := (hH.2.2.2 a (Nat.not_le.mp h8)).trans h5
    simp [Cond.before, Cond.holds, Cond.value, Term.eval, State.fieldNamed?, h1, h2, h4, h5', h6, h7, Value.isRef]
  · have h5' : s.heap[a]? = some cell := (hH.2.2.2 a (Nat.not_le.mp h8)).trans h5
    simp [Cond.before, Cond.holds, Cond.value, Term.eval, State.fieldNamed?, h1, h2, h4, h5', h6, h7, Value.isRef]
/-- the words of a throw: of the tables, or kept apart -/
def ax_w (V : ax_V) (w : Cond) : Prop := w ∈ V.ts ∨ (∃ x y, w = .castable x y ∧ (x, y) ∈ V.ct) ∨ (∃ y, w = .declares y ∧ y ∈ V.dc) ∨ (w = .isRef (.static "java/lang/Throwable" "UNASSIGNED_STACK" "[Ljava/lang/StackTraceElement;") ∨ w = .isRef (.static "java/lang/Throwable" "SUPPRESSED_SENTINEL" "Ljava/util/List;")) ∨ w = .laysStatic "java/lang/Throwable" "UNASSIGNED_STACK" "[Ljava/lang/StackTraceElement;" ∨ w = .laysStatic "java/lang/Throwable" "SUPPRESSED_SENTINEL" "Ljava/util/List;"
theorem ax_w.at {w : Cond} (hw : ax_w V w) (ht : ∀ w ∈ V.ts, w.before args s = true) (hK : ax_K V G s) (hH : ax_H V G h s.heap) (hLS : ax_LS G s) : w.before args s = true := by
  rcases hw with q | ⟨x, y, rfl, q⟩ | ⟨y, rfl, q⟩ | (rfl | rfl) | rfl | rfl
  · exact ht w q
  · exact hK.ct q
  · exact hK.dc q
  · exact ax_zq hLS.2.2.1 hH
  · exact ax_zq hLS.2.2.2 hH
  · exact hLS.1.word (fun q hq => hH.2.2.2 q (Nat.not_le.mp hq))
  · exact hLS.2.1.word (fun q hq => hH.2.2.2 q (Nat.not_le.mp hq))
theorem ax_sm {s T U : State} {locs : List Loc} (h : s.sameButNew (T.setVm s.vm) locs 0 0) (g : (ax_st s T).sameButNew ({ U with vm := (ax_st s T).vm } : State) [] 1 6) : s.sameButNew ({ U with vm := s.vm } : State) locs 1 6 := by
  have e1 : ({ U with vm := s.vm } : State) = { s.setFrames U.frames with heap := U.heap, slotsUsed := U.slotsUsed } := by
    have := congrArg (fun x : State => x.setVm s.vm) g.1
    exact this
  have e2 : ({ U with vm := s.vm } : State) = { (T.setVm s.vm).setFrames U.frames with heap := U.heap, slotsUsed := U.slotsUsed } := by
    rw [h.1, e1]
    show _ = ({ (s.setFrames T.frames).setFrames U.frames with heap := U.heap, slotsUsed := U.slotsUsed } : State)
    rw [State.setFrames_setFrames]
  have k : (T.setVm s.vm).sameButNew ({ U with vm := s.vm } : State) [] 1 6 := ⟨e2, g.2⟩
  have := h.trans k
  rw [List.append_nil, Nat.zero_add, Nat.zero_add] at this
  exact this
theorem AW.throwS (X : ax_X p m meth c s args V G cc nL own pl ret) (hE : c.exceptionTable.isEmpty = true) (hLS : ax_LS G s) (hl0 : l.stackTraces = false) {ix ic kx ci k : Nat} {cls tx : String} {T0 : u_T} {names : List String} (hcl : V.cl[ci]? = some (cls, T0, 0)) (hclass : Cond.classLink own ix cls ∈ V.ts) (hinst : Cond.instantiable cls 6 ∈ V.ts) (hini : Cond.initialized cls ∈ V.ts) (hz : (own, kx, tx, k) ∈ V.sr) (hfit : Bundle.fit cls = true) (hnames : ∀ n ∈ names, Bundle.fit n = true) (hat : ∀ w ∈ Bundle.ownAtoms own ic cls names, ax_w V w) (hR : names.length + 3 < R.frames ∧ 13 * (names.length + 1) + 60 ≤ R.locals ∧ 1 ≤ R.cells ∧ 6 ≤ R.slots)
    (d0 : decode cc pc = .ok (.new ix, 3)) (d1 : decode cc (pc + 3) = .ok (.dup, 1)) (d2 : decode cc (pc + 3 + 1) = .ok (.ldc kx, 2)) (d3 : decode cc (pc + 3 + 1 + 2) = .ok (.invokespecial ic, 3)) (d4 : decode cc (pc + 3 + 1 + 2 + 3) = .ok (.athrow, 1)) :
    AW p l e R s m args below meth c V G nL h 0 0 (MQT below (ax_QT V G ci h) args s 1 6 (fun q => G.bs ≤ q)) pc lv [] := by
  intro H locs ls hH hl hv T hT X0
  have hW0 : s.WarmedH (ax_st s T).vm := X0.warmed
  have hts : ∀ w ∈ V.ts, w.before args (ax_st s T) = true := fun w hw => pay_in X.ts X.gd w hw args (ax_st s T) hW0
  have hK2 : ax_K V G (ax_st s T) := X.k.moved hW0
  have hH2 : ax_H V G h (ax_st s T).heap := by show ax_H V G h T.heap; rw [hT]; exact hH
  have ow2 : (ax_st s T).vm.findClass own = some m.cls := by rw [hW0.alike.findClass]; exact X.ow
  have htr : e.platform.stackTraces = false := by rw [X0.admits.platform]; exact hl0
  have hat2 : ∀ w ∈ Bundle.ownAtoms own ic cls names, w.before args (ax_st s T) = true := fun w hw => (hat w hw).at hts hK2 hH2 (hLS.moved hW0)
  have k2 : W p l e R (ax_st s T) m args below meth c T.heap [] 0 0 (fun t => t.status = .running ∧ Ended t below (.threw T.heap.size) ∧ (ax_st s T).WarmedH t.vm ∧ (ax_st s T).sameButNew ({ t with vm := (ax_st s T).vm } : State) [] (0 + 1) (0 + 6) ∧ ∃ ce, t.heap[T.heap.size]? = some ce ∧ Bundle.OwnCell args (ax_st s T) cls T.heap.size (.ref (G.ph k)) ce) (F0 m pc ls []) := by
    refine W.newc X.x X.b ow2 (hts _ hclass) (hts _ hinst) (hts _ hini) (g := F0 m pc ls []) rfl d0 (by omega) (by omega) fun cC kC f1 f2 f3 f4 => ?_
    refine lv_dup X.x X.b (va := .ref T.heap.size) d1 rfl ?_
    refine va_ldcS X.x X.b ow2 (hK2.2.2.2.2.2.2.2.1 _ hz) d2 ?_
    intro T1 hT1 Y
    exact Y.ctorThrowS X.x htr ow2 hfit hnames hat2 (fun x hx => by cases hx) (a := T.heap.size) f1 f2 (by rw [hT1]; simp) (Nat.le_refl _) (msg := .ref (G.ph k)) rfl (g := F0 m (pc + 3 + 1 + 2) ls [.ref (G.ph k), .ref T.heap.size, .ref T.heap.size]) rfl (hv.1.trans X.ml.symm) rfl rfl (rest := []) rfl (by rw [X.b]; exact d3) (by rw [X.b]; exact d4) (fun x hx => by rw [Array.isEmpty_iff.mp hE] at hx; cases hx) hR.1 (by show 2 * 0 + 1 + (13 * (names.length + 1) + 42) ≤ R.locals; omega) X.lk
  obtain ⟨U, st, hrun, hend, hW, hsame, ce, hce, hO⟩ := k2 T rfl (ax_anew X0)
  have hsz := hsame.2.2.1
  have hlt : T.heap.size < U.heap.size := (Array.getElem?_eq_some_iff.mp hce).1
  have oq : ∀ q : Nat, q < T.heap.size → U.heap[q]? = T.heap[q]? := by
    intro q hq
    obtain ⟨c', h1, h2, h3, h4⟩ := hsame.2.2.2.2.2 q _ (Array.getElem?_eq_getElem hq)
    have h5 : c'.slots = (T.heap[q]).slots := Array.ext_getElem? (fun i => h4 i (by simp))
    rw [h5] at h2
    rw [Array.getElem?_eq_getElem hq]
    exact h1.trans (congrArg some h2)
  obtain ⟨g1, g2⟩ := ax_new (c := .inr (ci, [])) X.i hH2 ⟨_, hcl, ce, hce, Option.some.inj (hO.cls.symm.trans (hK2.1 ci _ hcl).2.1), hO.vm, fun k hk => absurd hk (Nat.not_lt_zero k)⟩ (by show U.heap.size = T.heap.size + 1; have : U.heap.size ≤ T.heap.size + 1 := hsz; omega) oq
  exact ⟨U, st, .threw T.heap.size, hrun, hend, ⟨congrArg Outcome.threw g2.symm, g1⟩, locs, ⟨⟨_, rfl⟩, X0.warmed.trans hW, ax_sm X0.same hsame⟩, hl⟩
/-- the search for a handler, and the tables that it leaves -/
def ax_Fi (e : Env) (s : State) (f : JFrame) (a : Addr) (h : Handler) (vm' : Vm) : Prop := ∀ (Q : Handler → Pre) (E : CtlPost) (d : Bool) (acts : List Action), wp (findHandler f a) Q E e d acts s ↔ Q h d acts (s.setVm vm')
theorem ax_go1 {Q : Handler → Pre} {E : CtlPost} {d : Bool} {acts : List Action} {f : JFrame} {a : Addr} {x : ExceptionTableEntry} {t : List ExceptionTableEntry} {c : ClassId} {cell : Cell} (hx : covers x f.pc = true) (h0 : x.catchType ≠ 0) (hl : s.vm.ClassLinks e.platform f.method.cls x.catchType c) (hcell : s.heap[a]? = some cell) (hobj : ∀ k, cell.vm ≠ .statics k) (hk : ∃ k, s.vm.classes[cell.cls]? = some k) (hc : ∃ k, s.vm.classes[c]? = some k) :
    wp (findHandler.go f a (x :: t)) Q E e d acts s ↔ if s.vm.assignable cell.cls c = true then Q (.found x.handlerPc) d acts (s.setVm (s.vm.noted f.method.cls x.catchType (.cls c))) else wp (findHandler.go f a t) Q E e d acts (s.setVm (s.vm.noted f.method.cls x.catchType (.cls c))) := by
  simp only [covers] at hx
  obtain ⟨ha, ht⟩ := (resolveClass_links e.toSetting hl).op (op := VmOp.resolveClass f.method.cls x.catchType) rfl
  have hal : s.vm.Alike (s.vm.noted f.method.cls x.catchType (.cls c)) := (Vm.Alike.refl s.vm).noted _ _ _
  obtain ⟨k1, hk1⟩ := hk
  obtain ⟨k2, hk2⟩ := hc
  obtain ⟨k1', hk1', -⟩ := hal.2.2 _ _ hk1
  obtain ⟨k2', hk2', -⟩ := hal.2.2 _ _ hk2
  have hfit := hal.assignable cell.cls c
  by_cases q : s.vm.assignable cell.cls c = true
  · rw [if_pos q]
    rw [q] at hfit
    simp [findHandler.go, hx, h0, ha, ht, hcell, hobj, hk1', hk2', hfit, VmOp.dirties, VmOp.acts]
  · rw [if_neg q]
    have q' : s.vm.assignable cell.cls c = false := by simpa using q
    rw [q'] at hfit
    simp [findHandler.go, hx, h0, ha, ht, hcell, hobj, hk1', hk2', hfit, VmOp.dirties, VmOp.acts]
theorem ax_stepc {f : JFrame} {a : Addr} {fr : List Frame} {hp : Nat} {vm' : Vm} (hfind : ax_Fi e s f a (.found hp) vm') : (stepThrowing e s a (.java f :: fr)).Is ((s.setVm vm').setFrames (.java { f with pc := hp, stack := [.ref a] } :: fr)) [] := by
  simp only [stepThrowing, searchFrame, vmDo]
  generalize hr : Sem.go _ e false [] s = res
  obtain ⟨as, rfl, ha⟩ := Sem.eq_ok_of hr (a := Handler.found hp) (s' := s.setVm vm') (acts' := []) (by simp [hfind _ _ _ _])
  exact ⟨rfl, ha⟩
theorem ax_sfr (u : State) (vm' : Vm) (F K : List Frame) : ((u.setFrames F).setVm vm').setFrames K = (u.setVm vm').setFrames K := by
  have h1 : (u.setFrames F).setVm vm' = (u.setVm vm').setFrames F := rfl
  rw [h1, State.setFrames_setFrames]
theorem ax_caughtTo {target : State} {g : JFrame} {a : Addr} (h : At s g.method c below) {hp : Nat} {vm' : Vm} (hfind : ax_Fi e ((s.setTop g).pushFrame (.throwing a)) g a (.found hp) vm') (hrest : Steps p.tables e below ((s.setVm vm').setTop { g with pc := hp, stack := [.ref a] }) target) : Steps p.tables e below ((s.setTop g).pushFrame (.throwing a)) target := by
  obtain ⟨hgo, hw⟩ := h.throwing a
  refine Steps.head hgo hw ?_
  rw [stepThread_throwing (frames_entered h.top _), (ax_stepc (s := (s.setTop g).pushFrame (.throwing a)) hfind).1]
  obtain ⟨g₀, hg⟩ := Option.isSome_iff_exists.mp h.top
  obtain ⟨fr, hr⟩ := State.topJava?_eq_some.mp hg
  have hr' : (s.setVm vm').frames = .java g₀ :: fr := hr
  rw [State.setTop_of_frames _ hr'] at hrest
  rw [hr, List.tail_cons, State.pushFrame, ax_sfr, State.setTop_of_frames _ hr, ax_sfr]
  exact hrest
/-- a row of the table that the object passes: its class is another -/
def ax_pass (own : String) (args : Array Value) (s : State) (k : ClassId) (hpc : Nat) (y : ExceptionTableEntry) : Prop := covers y hpc = true ∧ y.catchType ≠ 0 ∧ ∃ (nm : String) (cN : ClassId), (Cond.classLink own y.catchType nm).before args s = true ∧ s.vm.findClass nm = some cN ∧ s.vm.assignable k cN = false
theorem ax_find (X : Stand p l e R s m args below meth c T locs cells slots) (a : Addr) {g : JFrame} (hg : g.method = m) {nm : String} (hown : s.vm.findClass own = some m.cls) {cell : Cell} (hcell : T.heap[a]? = some cell) (hobj : cell.vm.isStatics = false) (hk : ∃ k, s.vm.classes[cell.cls]? = some k) (x : ExceptionTableEntry) (rest : List ExceptionTableEntry) (hx : covers x g.pc = true) (h0 : x.catchType ≠ 0) (hlink : (Cond.classLink own x.catchType nm).before args s = true) {cT : ClassId} (hcT : s.vm.findClass nm = some cT) (hfit : s.vm.assignable cell.cls cT = true) :
    ∀ (pre : List ExceptionTableEntry) (vm0 : Vm), s.WarmedH vm0 → (∀ y ∈ pre, ax_pass own args s cell.cls g.pc y) → ∃ vm', s.WarmedH vm' ∧ ∀ (Q : Handler → Pre) (E : CtlPost) (d : Bool) (acts : List Action), wp (findHandler.go g a (pre ++ x :: rest)) Q E e d acts (((T.setTop g).pushFrame (.throwing a)).setVm vm0) ↔ Q (.found x.handlerPc) d acts (((T.setTop g).pushFrame (.throwing a)).setVm vm') := by
  have hpl : e.platform.magicAccessors = ({} : Platform).magicAccessors := by rw [X.admits.platform]
  have hob := VmData.ne_statics_of hobj
  have kk : ∀ {vm0 : Vm} {cid : ClassId}, s.WarmedH vm0 → (∃ k, s.vm.classes[cid]? = some k) → ∃ k, vm0.classes[cid]? = some k := by
    rintro vm0 cid hW ⟨k, hk⟩
    obtain ⟨k', hk', -⟩ := hW.alike.2.2 _ _ hk
    exact ⟨k', hk'⟩
  have hcell' : ∀ vm0 : Vm, (((T.setTop g).pushFrame (.throwing a)).setVm vm0).heap[a]? = some cell := fun _ => hcell
  subst hg
  intro pre
  induction pre with
  | nil =>
    intro vm0 hW _
    obtain ⟨c', hc', hcl⟩ := Cond.classLink_spec hown hlink e.platform hpl
    cases hcT.symm.trans hc'
    obtain ⟨dk, _, _, kt, hd, _, _, _, _, hkt, _, hopen⟩ := hcl.here
    refine ⟨_, hW.noted hd hopen (State.rightAt_cls hcl), fun Q E d acts => ?_⟩
    rw [List.nil_append, ax_go1 (s := ((T.setTop g).pushFrame (.throwing a)).setVm vm0) (e := e) (c := cT) hx h0 (hW.classLinks hcl) (hcell' vm0) hob (kk hW hk) (kk hW ⟨kt, hkt⟩), if_pos (by show vm0.assignable _ _ = true; rw [hW.alike.assignable]; exact hfit)]
    rfl
  | cons y ys ih =>
    intro vm0 hW hp
    obtain ⟨hy, hy0, nm2, cN, hlk, hcN, hno⟩ := hp y List.mem_cons_self
    obtain ⟨c', hc', hcl⟩ := Cond.classLink_spec hown hlk e.platform hpl
    cases hcN.symm.trans hc'
    obtain ⟨dk, _, _, kt, hd, _, _, _, _, hkt, _, hopen⟩ := hcl.here
    obtain ⟨vm', hW', hq⟩ := ih _ (hW.noted hd hopen (State.rightAt_cls hcl)) (fun z hz => hp z (List.mem_cons_of_mem _ hz))
    refine ⟨vm', hW', fun Q E d acts => ?_⟩
    rw [List.cons_append, ax_go1 (s := ((T.setTop g).pushFrame (.throwing a)).setVm vm0) (e := e) (c := cN) hy hy0 (hW.classLinks hcl) (hcell' vm0) hob (kk hW hk) (kk hW ⟨kt, hkt⟩), if_neg (by show ¬ vm0.assignable _ _ = true; rw [hW.alike.assignable, hno]; decide)]
    exact hq Q E d acts
theorem ax_caught (X : Stand p l e R s m args below meth c T locs cells slots) (a : Addr) {g : JFrame} (hg : g.method = m) {nm : String} (hown : s.vm.findClass own = some m.cls) {cell : Cell} (hcell : T.heap[a]? = some cell) (hobj : cell.vm.isStatics = false) (hk : ∃ k, s.vm.classes[cell.cls]? = some k) (pre : List ExceptionTableEntry) (x : ExceptionTableEntry) (rest : List ExceptionTableEntry) (hsplit : c.exceptionTable.toList = pre ++ x :: rest) (hpass : ∀ y ∈ pre, ax_pass own args s cell.cls g.pc y) (hx : covers x g.pc = true) (h0 : x.catchType ≠ 0) (hlink : (Cond.classLink own x.catchType nm).before args s = true) {cT : ClassId} (hcT : s.vm.findClass nm = some cT) (hfit : s.vm.assignable cell.cls cT = true) :
    ∃ vm', Stand p l e R s m args below meth c (T.setVm vm') locs cells slots ∧ ∀ target, Steps p.tables e below ((T.setVm vm').setTop { g with pc := x.handlerPc, stack := [.ref a] }) target → Steps p.tables e below ((T.setTop g).pushFrame (.throwing a)) target := by
  obtain ⟨vm', hW', hq⟩ := ax_find X a hg hown hcell hobj hk x rest hx h0 hlink hcT hfit pre T.vm X.warmed hpass
  refine ⟨vm', X.noted hW', fun target hrest => ?_⟩
  subst hg
  refine ax_caughtTo X.here (fun Q E d acts => ?_) hrest
  rw [W.findHandler_eq (s := (T.setTop g).pushFrame (.throwing a)) X.method' X.code, hsplit]
  exact hq Q E d acts
theorem AW.callT (X : ax_X p m meth c s args V G cc nL own pl ret) (hLS : ax_LS G s) {index ci cx : Nat} {y : MethodName} {bytes : ByteArray} {maxL d : Nat} {ret' : Option FieldType} {As fs : List Value} {rc : vw_C} {nm cls : String} {T0 : u_T} (hM : AT l V G y bytes maxL ret' d (.ref a :: As) h cx) (hw : ax_CB V own index y bytes maxL ret' n) (ha : h[a]? = some (.inr (ci, fs))) (hc : V.cl[ci]? = some rc) (hin : Cond.instanceMethod y ∈ V.ts) (hse : Cond.selects rc.1 y y ∈ V.ts) (hn : As.length = n) (hR : d + 1 ≤ R.frames ∧ 19 + maxL + 40 * d ≤ R.locals) (hr : (r.map fun v => v.category).sum ≤ 8) (hf : cells + 1 ≤ R.cells ∧ slots + 6 ≤ R.slots) (hd : decode cc pc = .ok (.invokevirtual index, 3))
    (pre : List ExceptionTableEntry) (x : ExceptionTableEntry) (rest : List ExceptionTableEntry) (hsplit : c.exceptionTable.toList = pre ++ x :: rest) (hpass : ∀ k, s.vm.findClass cls = some k → ∀ y ∈ pre, ax_pass own args s k pc y) (hx : covers x pc = true) (h0 : x.catchType ≠ 0) (hlink : Cond.classLink own x.catchType nm ∈ V.ts) (hcx : V.cl[cx]? = some (cls, T0, 0)) (hcast : (cls, nm) ∈ V.ct)
    (kk : AW p l e R s m args below meth c V G nL (h ++ [.inr (cx, [])]) (cells + 1) (slots + 6) Q x.handlerPc lv [.ref h.length]) : AW p l e R s m args below meth c V G nL h cells slots Q pc lv (As.reverse ++ .ref a :: r) := by
  intro H locs ls hH hl hv T hT X0
  have cb : CallB R s args own index y bytes maxL ret' (.code y bytes maxL ret' :: V.ts) (ax_R d 1 6) 1 6 n := hw.b X hR
  obtain ⟨hrc, hrs, hfr, hlo, hws, hcw, hcode, hini, hy, hlen, hlk⟩ := cb
  obtain ⟨cellB, hcB, hoB, hclB⟩ := ax_recv X.k hH ha hc
  obtain ⟨mk, methM, hnamed, hmethM, hstM, habM⟩ := Cond.instanceMethod_spec (X.ts _ hin)
  obtain ⟨methM', cM, hmethM', hcM, -, hlM, -, -, -, hsigM⟩ := Cond.code_spec hnamed hcode
  cases hmethM.symm.trans hmethM'
  obtain ⟨c2, r2, m2, q1, q2, q3, q4, kP, hkP, hkPi⟩ := Cond.selects_spec (X.ts _ hse)
  cases hclB.symm.trans q1
  cases (State.methodFound?_of_named hnamed hy).symm.trans q2
  cases hnamed.symm.trans q3
  have hselP : selectMethod e.platform s.vm cellB.cls mk = .method mk := by rw [Launch.admits_selectMethod X0.admits]; exact q4
  obtain ⟨vm₁, X₁, hstep₁⟩ := X0.invokevirtual X.x X.ow hlk hnamed hmethM hstM hkP hkPi hy (a := G.ph a) (cell := cellB) (by rw [hT]; exact hcB)
    (fun z h => by rw [h] at hoB; cases hoB) hselP hmethM habM hkP hkPi (g := F0 m pc ls ((As.reverse ++ .ref a :: r).map (ax_v G.ph))) rfl (argsL := As.map (ax_v G.ph)) (rest := r.map (ax_v G.ph)) (by rw [List.length_map]; exact hn.trans (hlen _ hsigM)) (by rw [List.map_append, List.map_reverse]; rfl) (by rw [X.b]; exact hd)
  have hn1 := X₁.named hnamed
  have hgd : decode c.code (F0 m pc ls (r.map (ax_v G.ph))).pc = .ok (.invokevirtual index, 3) := by rw [X.b]; exact hd
  obtain ⟨methY, cY, hmY, hcY, -, hlY, -, -, -, -⟩ := Cond.code_spec hn1 (hws _ hcw (Value.ref (G.ph a) :: As.map (ax_v G.ph)).toArray _ X₁.warmed)
  obtain ⟨kY, hkY, -⟩ := className_of_methodNamed hn1
  have h3 : (Cond.initialized y.cls).before (Value.ref (G.ph a) :: As.map (ax_v G.ph)).toArray (T.setVm vm₁) = true := word_at X₁.warmed (Or.inl (by first | rfl | simp [Cond.onTables, Cond.keeps, Cond.steady])) hini
  have hinitY : kY.init = .initialized := Cond.initialized_spec (findClass_of_methodNamed hn1) hkY h3
  have hrm : 2 * (F0 m pc ls (r.map (ax_v G.ph))).monitorRoom + ((r.map (ax_v G.ph)).map fun v => v.category).sum ≤ 8 := ax_rm8 hr
  have happ : (headSpec (.code y bytes maxL ret' :: V.ts) (ax_R d 1 6)).appliesLoose y e.platform ((T.setVm vm₁).calling (F0 m pc ls (r.map (ax_v G.ph))) mk (Value.ref (G.ph a) :: As.map (ax_v G.ph)).toArray) = true :=
    Spec.appliesLoose_calling (g := F0 m pc ls (r.map (ax_v G.ph))) X₁.here hgd hn1 hkY hinitY
      (X₁.room_calling (g := F0 m pc ls (r.map (ax_v G.ph))) (R' := ax_R d 1 6) (hv.1.trans X.ml.symm) hmY hcY hR.1 (by rw [hlY]; have h9 : (ax_R d 1 6).locals = 40 * d := rfl; have h8 := hR.2; rw [h9]; have h7 : (F0 m pc ls (r.map (ax_v G.ph))).stack = r.map (ax_v G.ph) := rfl; rw [h7]; omega) hf.1 hf.2) (atoms_intro fun w hw => hws w hw _ _ X₁.warmed)
  obtain ⟨mid, hmid⟩ := X₁.here.above
  have hfr' : ((T.setVm vm₁).setTop (F0 m pc ls (r.map (ax_v G.ph)))).frames = (.java (F0 m pc ls (r.map (ax_v G.ph))) :: mid) ++ below := by rw [State.frames_setTop' _ X₁.here.top, hmid]; rfl
  obtain ⟨o, s₂, hsteps, -, hend, ⟨e3, e4⟩, L, ⟨-, hW₂, hsame⟩, hL⟩ := Steps.callFree (hM X.i) p X₁.admits X₁.cas X₁.clock (acts := []) hfr' happ ⟨rfl, ⟨X.k.moved X₁.warmed, by show ax_H V G h T.heap; rw [hT]; exact hH⟩, hLS.moved X₁.warmed⟩ trivial
  subst e3
  rw [State.frames_setTop' _ X₁.here.top, X₁.tail] at hend
  obtain ⟨T', X', -, -, et⟩ := X₁.outOfThrown (g := F0 m pc ls (r.map (ax_v G.ph))) rfl (mk := mk) (a := (Value.ref (G.ph a) :: As.map (ax_v G.ph)).toArray) hend hW₂ hsame
  have hH' : ax_H V G (h ++ [.inr (cx, [])]) T'.heap := by
    have e9 : s₂.heap = T'.heap := by rw [et]; rfl
    rw [← e9]; exact e4
  obtain ⟨r9, hr9, ce, hce, hcc, hvm, -⟩ := hH'.1 h.length (.inr (cx, [])) (by rw [List.getElem?_append_right (Nat.le_refl _), Nat.sub_self]; rfl) rfl
  obtain ⟨hcl9, kC, hkC⟩ := (X.k.1 cx _ hcx).2
  obtain ⟨c3, cT, hc3, hcT, hasg⟩ := Cond.castable_spec (X.k.ct (args := args) hcast)
  cases hcl9.symm.trans hc3
  have hcc' : ce.cls = G.1.1 cx := hcc
  obtain ⟨vm', XV, stV⟩ := ax_caught X' (G.ph h.length) (g := F0 m pc ls (r.map (ax_v G.ph))) rfl X.ow hce hvm.2.1 (by rw [hcc']; exact ⟨kC, hkC⟩) pre x rest hsplit (by rw [hcc']; exact hpass _ hcl9) hx h0 (X.ts _ hlink) hcT (by rw [hcc']; exact hasg)
  obtain ⟨t2, a1, b1⟩ := kk T'.heap (locs ++ L) ls hH' (fun q hq => by
    rcases List.mem_append.mp hq with z | z
    · exact hl q z
    · exact hL q z) hv (T'.setVm vm') rfl XV
  refine ⟨t2, hstep₁ _ fun acts => ?_, b1⟩
  rw [doInvoke_state]
  refine hsteps.trans ?_
  rw [et]
  exact stV _ a1
end AXTH
