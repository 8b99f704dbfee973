/-! RULES: arrays, fields, new cells -/
theorem ax_locs {G : ax_G} {locs : List Loc} {a i : Nat} (hl : ∀ q ∈ locs, G.bs ≤ q.base) (ha : G.bs ≤ a) : ∀ q ∈ locs ++ [(⟨a, i⟩ : Loc)], G.bs ≤ q.base := t_lc hl ha
theorem ax_inn {i : Int32} {j n : Nat} (hi : i = nI j) (hj : j < n) (hn : n < 2 ^ 31) : vp_in i n ∧ i.toNatClampNeg = j := by
  subst hi
  exact ⟨vp_in_nI hj hn, nI_clamp (by omega)⟩
section AXS
variable {p : Program} {l : Launch} {e : Env} {R : Room} {s : State} {m : MethodId} {args : Array Value} {below : List Frame} {meth : Method} {c : Code} {V : ax_V} {G : ax_G} {cc : ByteArray} {nL : Nat} {own : String} {pl : ax_pool} {ret : Option FieldType} {cells slots : Nat} {Q : State → Prop}
variable {pc : Nat} {lv : List (Nat × Value)} {r : List Value} {h : List va_E} {a t n j : Nat} {i : Int32}
theorem AW.iald (X : ax_X p m meth c s args V G cc nL own pl ret) {f : Nat → Int32} (ha : h[a]? = some (.inl (t, n, .inl f))) (ht : V.tl[t]? = some .int) (hi : i = nI j) (hj : j < n) (hn : n < 2 ^ 31) (hd : decode cc pc = .ok (.iaload, 1)) (k : AW p l e R s m args below meth c V G nL h cells slots Q (pc + 1) lv (.int (f j) :: r)) : AW p l e R s m args below meth c V G nL h cells slots Q pc lv (.int i :: .ref a :: r) := by
  obtain ⟨h1, h2⟩ := ax_inn hi hj hn
  subst h2
  intro H locs ls hH hl hv
  exact va_iald X.x X.b (X.k.K1 ht) (ax_P1 hH ha rfl) 0 0 rfl rfl h1 hd (k H locs ls hH hl hv)
theorem AW.bald (X : ax_X p m meth c s args V G cc nL own pl ret) {f : Nat → Int32} (ha : h[a]? = some (.inl (t, n, .inl f))) (ht : V.tl[t]? = some .byte) (hi : i = nI j) (hj : j < n) (hn : n < 2 ^ 31) (hd : decode cc pc = .ok (.baload, 1)) (k : AW p l e R s m args below meth c V G nL h cells slots Q (pc + 1) lv (.int (f j) :: r)) : AW p l e R s m args below meth c V G nL h cells slots Q pc lv (.int i :: .ref a :: r) := by
  obtain ⟨h1, h2⟩ := ax_inn hi hj hn
  subst h2
  intro H locs ls hH hl hv
  exact va_bald X.x X.b (X.k.K1 ht) (ax_P1 hH ha rfl) 0 0 rfl rfl h1 hd (k H locs ls hH hl hv)
theorem AW.zald (X : ax_X p m meth c s args V G cc nL own pl ret) {f : Nat → Int32} (ha : h[a]? = some (.inl (t, n, .inl f))) (ht : V.tl[t]? = some .boolean) (hi : i = nI j) (hj : j < n) (hn : n < 2 ^ 31) (hd : decode cc pc = .ok (.baload, 1)) (k : AW p l e R s m args below meth c V G nL h cells slots Q (pc + 1) lv (.int (f j) :: r)) : AW p l e R s m args below meth c V G nL h cells slots Q pc lv (.int i :: .ref a :: r) := by
  obtain ⟨h1, h2⟩ := ax_inn hi hj hn
  subst h2
  intro H locs ls hH hl hv
  exact va_zald X.x X.b (X.k.K1 ht) (ax_P1 hH ha rfl) 0 0 rfl rfl h1 hd (k H locs ls hH hl hv)
theorem AW.cald (X : ax_X p m meth c s args V G cc nL own pl ret) {f : Nat → Int32} (ha : h[a]? = some (.inl (t, n, .inl f))) (ht : V.tl[t]? = some .char) (hi : i = nI j) (hj : j < n) (hn : n < 2 ^ 31) (hd : decode cc pc = .ok (.caload, 1)) (k : AW p l e R s m args below meth c V G nL h cells slots Q (pc + 1) lv (.int (f j) :: r)) : AW p l e R s m args below meth c V G nL h cells slots Q pc lv (.int i :: .ref a :: r) := by
  obtain ⟨h1, h2⟩ := ax_inn hi hj hn
  subst h2
  intro H locs ls hH hl hv
  exact va_cald X.x X.b (X.k.K1 ht) (ax_P1 hH ha rfl) 0 0 rfl rfl h1 hd (k H locs ls hH hl hv)
theorem AW.lald (X : ax_X p m meth c s args V G cc nL own pl ret) {f : Nat → Int64} (ha : h[a]? = some (.inl (t, n, .inr (.inl f)))) (ht : V.tl[t]? = some .long) (hi : i = nI j) (hj : j < n) (hn : n < 2 ^ 31) (hd : decode cc pc = .ok (.laload, 1)) (k : AW p l e R s m args below meth c V G nL h cells slots Q (pc + 1) lv (.long (f j) :: r)) : AW p l e R s m args below meth c V G nL h cells slots Q pc lv (.int i :: .ref a :: r) := by
  obtain ⟨h1, h2⟩ := ax_inn hi hj hn
  subst h2
  intro H locs ls hH hl hv
  exact va_lald X.x X.b (X.k.K1 ht) (ax_P1 hH ha rfl) 0 0 rfl rfl h1 hd (k H locs ls hH hl hv)
theorem AW.aald (X : ax_X p m meth c s args V G cc nL own pl ret) {C : String} {f : Nat → Option Nat} (ha : h[a]? = some (.inl (t, n, .inr (.inr (.inr (.inr f)))))) (ht : V.tl[t]? = some (.object C)) (hi : i = nI j) (hj : j < n) (hn : n < 2 ^ 31) (hd : decode cc pc = .ok (.aaload, 1)) (k : AW p l e R s m args below meth c V G nL h cells slots Q (pc + 1) lv (va_rf (f j) :: r)) : AW p l e R s m args below meth c V G nL h cells slots Q pc lv (.int i :: .ref a :: r) := by
  obtain ⟨h1, h2⟩ := ax_inn hi hj hn
  subst h2
  intro H locs ls hH hl hv
  have k1 := k H locs ls hH hl hv
  rw [List.map_cons, ax_rf] at k1
  exact va_aldq X.x X.b (X.k.K1 ht) (ax_P1 hH ha rfl) 0 0 rfl rfl h1 hd k1
theorem AW.alen (X : ax_X p m meth c s args V G cc nL own pl ret) {x : vp_A} {ty : FieldType} (ha : h[a]? = some (.inl (t, x))) (hx0 : ax_nf (.inl (t, x)) = true) (ht : V.tl[t]? = some ty) (hd : decode cc pc = .ok (.arraylength, 1)) (k : AW p l e R s m args below meth c V G nL h cells slots Q (pc + 1) lv (.int (nI x.1) :: r)) : AW p l e R s m args below meth c V G nL h cells slots Q pc lv (.ref a :: r) := by
  intro H locs ls hH hl hv
  have hx : (ax_a G.ph x).1 = x.1 := by
    unfold ax_a
    split <;> rfl
  exact va_alen X.x X.b (X.k.K1 ht) (ax_P1 hH ha hx0) 0 0 rfl rfl (by rw [hx]; rfl) hd (k H locs ls hH hl hv)
theorem AW.iast (X : ax_X p m meth c s args V G cc nL own pl ret) {f : Nat → Int32} {x : Int32} (ha : h[a]? = some (.inl (t, n, .inl f))) (ht : V.tl[t]? = some .int) (hna : ax_nC ≤ a) (hi : i = nI j) (hj : j < n) (hn : n < 2 ^ 31) (hd : decode cc pc = .ok (.iastore, 1)) (k : AW p l e R s m args below meth c V G nL (h.set a (.inl (t, n, .inl (upd f j x)))) cells slots Q (pc + 1) lv r) : AW p l e R s m args below meth c V G nL h cells slots Q pc lv (.int x :: .int i :: .ref a :: r) := by
  obtain ⟨h1, h2⟩ := ax_inn hi hj hn
  subst h2
  intro H locs ls hH hl hv
  refine W.iast X.x X.b (hH.1 a _ ha rfl) ((X.k.2.1 t _ ht).1 n (fun j => .int (f j))) (fun q => by cases q) (by show ¬ (i < 0 ∨ (arrV _ _ _).slots.size ≤ _); rw [arrV_size]; exact h1) rfl rfl hd fun H1 e z oq => ?_
  refine k H1 _ ls (ax_set X.i hH ha hna (fun _ => ?_) z oq) (ax_locs hl (ax_bsle X.i hna)) hv
  show H1[G.ph a]? = some (vp_cell (G.ca t) (n, .inl (upd f i.toNatClampNeg x)))
  rw [e]
  show some ((vp_cell (G.ca t) (n, .inl f)).setSlot _ _) = _
  rw [vp_cell_i, vp_cell_i, arrV_store]
  congr 2
  funext q
  by_cases hq : q = i.toNatClampNeg
  · subst hq
    simp [updV, upd]
    try rfl
  · simp [updV, upd, hq]
theorem AW.bast (X : ax_X p m meth c s args V G cc nL own pl ret) {f : Nat → Int32} {x : Int32} (ha : h[a]? = some (.inl (t, n, .inl f))) (ht : V.tl[t]? = some .byte) (hna : ax_nC ≤ a) (hi : i = nI j) (hj : j < n) (hn : n < 2 ^ 31) (hd : decode cc pc = .ok (.bastore, 1)) (k : AW p l e R s m args below meth c V G nL (h.set a (.inl (t, n, .inl (upd f j (vp_nar .byte x))))) cells slots Q (pc + 1) lv r) : AW p l e R s m args below meth c V G nL h cells slots Q pc lv (.int x :: .int i :: .ref a :: r) := by
  obtain ⟨h1, h2⟩ := ax_inn hi hj hn
  subst h2
  intro H locs ls hH hl hv
  refine W.bast X.x X.b (hH.1 a _ ha rfl) ((X.k.2.1 t _ ht).1 n (fun j => .int (f j))) (fun q => by cases q) (by show ¬ (i < 0 ∨ (arrV _ _ _).slots.size ≤ _); rw [arrV_size]; exact h1) rfl rfl hd fun H1 e z oq => ?_
  refine k H1 _ ls (ax_set X.i hH ha hna (fun _ => ?_) z oq) (ax_locs hl (ax_bsle X.i hna)) hv
  show H1[G.ph a]? = some (vp_cell (G.ca t) (n, .inl (upd f i.toNatClampNeg (vp_nar .byte x))))
  rw [e]
  show some ((vp_cell (G.ca t) (n, .inl f)).setSlot _ _) = _
  rw [vp_cell_i, vp_cell_i, arrV_store]
  congr 2
  funext q
  by_cases hq : q = i.toNatClampNeg
  · subst hq
    simp [updV, upd, vp_nar]
    try rfl
  · simp [updV, upd, hq]
theorem AW.zast (X : ax_X p m meth c s args V G cc nL own pl ret) {f : Nat → Int32} {x : Int32} (ha : h[a]? = some (.inl (t, n, .inl f))) (ht : V.tl[t]? = some .boolean) (hna : ax_nC ≤ a) (hi : i = nI j) (hj : j < n) (hn : n < 2 ^ 31) (hd : decode cc pc = .ok (.bastore, 1)) (k : AW p l e R s m args below meth c V G nL (h.set a (.inl (t, n, .inl (upd f j (vp_nar .boolean x))))) cells slots Q (pc + 1) lv r) : AW p l e R s m args below meth c V G nL h cells slots Q pc lv (.int x :: .int i :: .ref a :: r) := by
  obtain ⟨h1, h2⟩ := ax_inn hi hj hn
  subst h2
  intro H locs ls hH hl hv
  refine W.zast X.x X.b (hH.1 a _ ha rfl) ((X.k.2.1 t _ ht).1 n (fun j => .int (f j))) (fun q => by cases q) (by show ¬ (i < 0 ∨ (arrV _ _ _).slots.size ≤ _); rw [arrV_size]; exact h1) rfl rfl hd fun H1 e z oq => ?_
  refine k H1 _ ls (ax_set X.i hH ha hna (fun _ => ?_) z oq) (ax_locs hl (ax_bsle X.i hna)) hv
  show H1[G.ph a]? = some (vp_cell (G.ca t) (n, .inl (upd f i.toNatClampNeg (vp_nar .boolean x))))
  rw [e]
  show some ((vp_cell (G.ca t) (n, .inl f)).setSlot _ _) = _
  rw [vp_cell_i, vp_cell_i, arrV_store]
  congr 2
  funext q
  by_cases hq : q = i.toNatClampNeg
  · subst hq
    simp [updV, upd, vp_nar]
    try rfl
  · simp [updV, upd, hq]
theorem AW.last (X : ax_X p m meth c s args V G cc nL own pl ret) {f : Nat → Int64} {x : Int64} (ha : h[a]? = some (.inl (t, n, .inr (.inl f)))) (ht : V.tl[t]? = some .long) (hna : ax_nC ≤ a) (hi : i = nI j) (hj : j < n) (hn : n < 2 ^ 31) (hd : decode cc pc = .ok (.lastore, 1)) (k : AW p l e R s m args below meth c V G nL (h.set a (.inl (t, n, .inr (.inl (vp_updL f j x))))) cells slots Q (pc + 1) lv r) : AW p l e R s m args below meth c V G nL h cells slots Q pc lv (.long x :: .int i :: .ref a :: r) := by
  obtain ⟨h1, h2⟩ := ax_inn hi hj hn
  subst h2
  intro H locs ls hH hl hv
  refine W.last X.x X.b (hH.1 a _ ha rfl) ((X.k.2.1 t _ ht).1 n (fun j => .long (f j))) (fun q => by cases q) (by show ¬ (i < 0 ∨ (arrV _ _ _).slots.size ≤ _); rw [arrV_size]; exact h1) rfl rfl hd fun H1 e z oq => ?_
  refine k H1 _ ls (ax_set X.i hH ha hna (fun _ => ?_) z oq) (ax_locs hl (ax_bsle X.i hna)) hv
  show H1[G.ph a]? = some (vp_cell (G.ca t) (n, .inr (.inl (vp_updL f i.toNatClampNeg x))))
  rw [e]
  show some ((vp_cell (G.ca t) (n, .inr (.inl f))).setSlot _ _) = _
  rw [vp_cell_l, vp_cell_l, arrV_store]
  congr 2
  funext q
  by_cases hq : q = i.toNatClampNeg
  · subst hq
    simp [updV, vp_updL]
    try rfl
  · simp [updV, vp_updL, hq]
theorem AW.aastN (X : ax_X p m meth c s args V G cc nL own pl ret) {C : String} {f : Nat → Option Nat} (ha : h[a]? = some (.inl (t, n, .inr (.inr (.inr (.inr f)))))) (ht : V.tl[t]? = some (.object C)) (hna : ax_nC ≤ a) (hi : i = nI j) (hj : j < n) (hn : n < 2 ^ 31) (hd : decode cc pc = .ok (.aastore, 1)) (k : AW p l e R s m args below meth c V G nL (h.set a (.inl (t, n, .inr (.inr (.inr (.inr (va_up f j none))))))) cells slots Q (pc + 1) lv r) : AW p l e R s m args below meth c V G nL h cells slots Q pc lv (.null :: .int i :: .ref a :: r) := by
  obtain ⟨h1, h2⟩ := ax_inn hi hj hn
  subst h2
  intro H locs ls hH hl hv
  refine va_WaastN (C := C) X.x X.b (hH.1 a _ ha rfl) ((X.k.2.1 t _ ht).1 n (fun j => va_rf (ax_o G.ph (f j)))) (fun q => by cases q) (by show ¬ (i < 0 ∨ (arrV _ _ _).slots.size ≤ _); rw [arrV_size]; exact h1) rfl rfl hd fun H1 e z oq => ?_
  refine k H1 _ ls (ax_set X.i hH ha hna (fun _ => ?_) z oq) (ax_locs hl (ax_bsle X.i hna)) hv
  show H1[G.ph a]? = some (vp_cell (G.ca t) (n, .inr (.inr (.inr (.inr (fun q => ax_o G.ph (va_up f i.toNatClampNeg none q)))))))
  rw [e]
  show some ((vp_cell (G.ca t) (n, .inr (.inr (.inr (.inr (fun q => ax_o G.ph (f q))))))).setSlot _ _) = _
  rw [vp_cell_q, vp_cell_q, arrV_store]
  congr 2
  funext q
  by_cases hq : q = i.toNatClampNeg
  · subst hq
    simp [updV, va_up, va_rf, ax_o]
  · simp [updV, va_up, hq]
/-- a reference to an object of class ci is stored: that class is the array's component's, or can be cast to it -/
theorem AW.aast (X : ax_X p m meth c s args V G cc nL own pl ret) {E : String} {f : Nat → Option Nat} {b ci : Nat} {fs : List Value} {rc : vw_C} (ha : h[a]? = some (.inl (t, n, .inr (.inr (.inr (.inr f)))))) (ht : V.tl[t]? = some (.object E)) (hna : ax_nC ≤ a) (hb : h[b]? = some (.inr (ci, fs))) (hc : V.cl[ci]? = some rc) (hca : rc.1 = E ∨ (rc.1, E) ∈ V.ct) (hi : i = nI j) (hj : j < n) (hn : n < 2 ^ 31) (hd : decode cc pc = .ok (.aastore, 1)) (k : AW p l e R s m args below meth c V G nL (h.set a (.inl (t, n, .inr (.inr (.inr (.inr (va_up f j (some b)))))))) cells slots Q (pc + 1) lv r) : AW p l e R s m args below meth c V G nL h cells slots Q pc lv (.ref b :: .int i :: .ref a :: r) := by
  obtain ⟨h1, h2⟩ := ax_inn hi hj hn
  subst h2
  have hlt : i.toNatClampNeg < n := hj
  have h0 : ¬ i < 0 := fun q => h1 (Or.inl q)
  intro H locs ls hH hl hv
  obtain ⟨r', hr', cellV, g1, g2, g3, -⟩ := hH.1 b _ hb rfl
  have hcls := (X.k.1 ci _ hc).2
  obtain ⟨kA, comp, k1, k2, k3, -⟩ := (X.k.2.1 t _ ht).2
  obtain ⟨kE, hkE, -⟩ := Vm.findClass_spec k3
  obtain ⟨kC, hkC⟩ := hcls.2
  have has : s.vm.assignable (G.1.1 ci) comp = true := by
    rcases hca with hca | hca
    · rw [← hca] at k3
      cases hcls.1.symm.trans k3
      exact va_asg _ _
    · obtain ⟨c0, t1, f1, f2, f3⟩ := Cond.castable_spec (va_Nw.use (A := args) rfl (X.k.2.2.2.2.1 _ hca))
      cases hcls.1.symm.trans f1
      cases k3.symm.trans f2
      exact f3
  refine W.aast X.x X.b (hH.1 a _ ha rfl) (fun q h => by cases h) (fun h => by cases h) k1 k2 rfl hkE ⟨h0, by show _ < (arrV _ _ _).slots.size; rw [arrV_size]; exact hlt⟩ g1 (fun q h => by rw [h] at g3; cases g3.2.1) (by rw [g2]; exact hkC) (by rw [g2]; exact has) rfl rfl hd fun H1 e z oq => ?_
  refine k H1 _ ls (ax_set X.i hH ha hna (fun _ => ?_) z oq) (ax_locs hl (ax_bsle X.i hna)) hv
  show H1[G.ph a]? = some (vp_cell (G.ca t) (n, .inr (.inr (.inr (.inr (fun q => ax_o G.ph (va_up f i.toNatClampNeg (some b) q)))))))
  rw [e]
  show some ((vp_cell (G.ca t) (n, .inr (.inr (.inr (.inr (fun q => ax_o G.ph (f q))))))).setSlot _ _) = _
  rw [vp_cell_q, vp_cell_q, arrV_store]
  congr 2
  funext q
  by_cases hq : q = i.toNatClampNeg
  · subst hq
    simp [updV, va_up, va_rf, ax_o]
  · simp [updV, va_up, hq]
theorem AW.get (X : ax_X p m meth c s args V G cc nL own pl ret) {idx ci k : Nat} {fs : List Value} {v : Value} (ha : h[a]? = some (.inr (ci, fs))) (hf : pl.1 idx ci = some k) (hv1 : fs[k]? = some v) (hd : decode cc pc = .ok (.getfield idx, 3)) (kk : AW p l e R s m args below meth c V G nL h cells slots Q (pc + 3) lv (v :: r)) : AW p l e R s m args below meth c V G nL h cells slots Q pc lv (.ref a :: r) := fun H locs ls hH hl hv => ax_getf X hH ha hf hv1 hd (kk H locs ls hH hl hv)
/-- what is known of a class whose fields are written -/
def ax_L (V : ax_V) (C : String) (T : u_T) (N : Nat) : Prop := (∀ w ∈ u_ws C T N, w ∈ V.ts) ∧ (∃ ty : Nat → FieldType, ∀ k, k < N → parseFieldDescriptor (T k).2.2.1 = some (ty k)) ∧ (∀ a, a < N → ∀ b, b < N → a ≠ b → (T a).2.1 ≠ (T b).2.1) ∧ ∃ n, Cond.instantiable C n ∈ V.ts
theorem ax_setmap (ph : Nat → Nat) (fs : List Value) (k : Nat) (v : Value) : (fs.set k v).map (ax_v ph) = (fs.map (ax_v ph)).set k (ax_v ph v) := by rw [List.map_set]
theorem AW.put (X : ax_X p m meth c s args V G cc nL own pl ret) {idx ci k N : Nat} {C : String} {T : u_T} {fs : List Value} {v : Value} {ty : FieldType} (ha : h[a]? = some (.inr (ci, fs))) (hna : ax_nC ≤ a) (hf : pl.1 idx ci = some k) (hc : V.cl[ci]? = some (C, T, N)) (hL : ax_L V C T N) (hfin : (T k).2.2.2 = false) (hty : parseFieldDescriptor (T k).2.2.1 = some ty) (hn : narrow ty (ax_v G.ph v) = ax_v G.ph v) (hfit : fits ty (ax_v G.ph v) = true) (hk : k < fs.length) (hd : decode cc pc = .ok (.putfield idx, 3)) (kk : AW p l e R s m args below meth c V G nL (h.set a (.inr (ci, fs.set k v))) cells slots Q (pc + 3) lv r) : AW p l e R s m args below meth c V G nL h cells slots Q pc lv (v :: .ref a :: r) := by
  obtain ⟨C', T', N', ref, h1, h2, h3, h7⟩ := X.f idx ci k hf
  cases hc.symm.trans h1
  obtain ⟨h4, ⟨ty0, h5⟩, h6, n0, h8⟩ := hL
  intro H locs ls hH hl hv
  have hKn : u_Kn s C T N (G.1.1 ci) (G.1.2 ci) := X.k.u hc (X.ts _ h8)
  have hap : ∀ x y, x < N → y < N → x ≠ y → G.1.2 ci x ≠ G.1.2 ci y := va_apart (own := own) (D := (fun _ => G.1.1 ci, fun _ => G.1.2 ci)) (cl := [(C, T, N)]) (tys := []) (ci := 0) X.ts h4 ty0 h5 h6 ⟨fun j q hq => by
    have hz : j < 1 := (List.getElem?_eq_some_iff.mp hq).1
    rw [show j = 0 by omega] at hq
    cases hq
    exact hKn, fun k q hq => by simp at hq⟩ rfl
  obtain ⟨r', e1, cell, q1, q2, q3, q4⟩ := hH.1 a _ ha rfl
  have q3 := q3.2.2 hna
  have hr : r' = (C, T, N) := Option.some.inj (e1.symm.trans hc)
  subst hr
  obtain ⟨hS, hfc, kC, hkC, hkind⟩ := hKn
  obtain ⟨cf, kf, fi, f, hi, hsl⟩ := hS k h2
  have hlay := X.ts _ (h4 _ (u_in_lay h2))
  unfold u_lay at hlay
  rw [if_neg (by rw [hfin]; decide)] at hlay
  have hst := (u_facts hfc hkC (u_lays X.ts h4 h2) hi).1
  have hsd := u_store hfc hkC hkind hlay hi hty hn hfit
  refine W.putK X.x X.b (f := f) ⟨X.ow, X.ts _ h3, ⟨_, _, _, ax_same X.ts h7 _ hi⟩, hst⟩ (by rw [q2]; exact hsd) q1 q3 (by rw [hsl]; exact k2_hasslot (q4 k h2)) rfl rfl hd fun H' e1 e2 e3 => ?_
  refine kk H' _ ls (ax_set X.i hH ha hna (fun _ => ?_) e2 e3) (ax_locs hl (ax_bsle X.i hna)) hv
  rw [hsl] at e1
  refine ⟨_, hc, t_OB.to (V := updV (vp_V (fs.map (ax_v G.ph))) k (ax_v G.ph v)) ⟨_, e1, q2, q3, t_set q4 hap h2 _⟩ (fun j _ => ?_)⟩
  rw [vp_updV_set (by rw [List.length_map]; exact hk), ← ax_setmap]
theorem AW.putF (X : ax_X p m meth c s args V G cc nL own pl ret) {idx ci k N : Nat} {C : String} {T : u_T} {fs : List Value} {v : Value} {ty : FieldType} (ha : h[a]? = some (.inr (ci, fs))) (hna : ax_nC ≤ a) (hf : pl.1 idx ci = some k) (hc : V.cl[ci]? = some (C, T, N)) (hL : ax_L V C T N) (hfin : (T k).2.2.2 = true) (hini : pl.2.2 = true) (hown : (T k).1 = own) (hty : parseFieldDescriptor (T k).2.2.1 = some ty) (hn : narrow ty (ax_v G.ph v) = ax_v G.ph v) (hfit : fits ty (ax_v G.ph v) = true) (hk : k < fs.length) (hd : decode cc pc = .ok (.putfield idx, 3)) (kk : AW p l e R s m args below meth c V G nL (h.set a (.inr (ci, fs.set k v))) cells slots Q (pc + 3) lv r) : AW p l e R s m args below meth c V G nL h cells slots Q pc lv (v :: .ref a :: r) := by
  obtain ⟨C', T', N', ref, h1, h2, h3, h7⟩ := X.f idx ci k hf
  cases hc.symm.trans h1
  obtain ⟨h4, ⟨ty0, h5⟩, h6, n0, h8⟩ := hL
  intro H locs ls hH hl hv
  have hKn : u_Kn s C T N (G.1.1 ci) (G.1.2 ci) := X.k.u hc (X.ts _ h8)
  have hap : ∀ x y, x < N → y < N → x ≠ y → G.1.2 ci x ≠ G.1.2 ci y := va_apart (own := own) (D := (fun _ => G.1.1 ci, fun _ => G.1.2 ci)) (cl := [(C, T, N)]) (tys := []) (ci := 0) X.ts h4 ty0 h5 h6 ⟨fun j q hq => by
    have hz : j < 1 := (List.getElem?_eq_some_iff.mp hq).1
    rw [show j = 0 by omega] at hq
    cases hq
    exact hKn, fun k q hq => by simp at hq⟩ rfl
  obtain ⟨r', e1, cell, q1, q2, q3, q4⟩ := hH.1 a _ ha rfl
  have q3 := q3.2.2 hna
  have hr : r' = (C, T, N) := Option.some.inj (e1.symm.trans hc)
  subst hr
  obtain ⟨hS, hfc, kC, hkC, hkind⟩ := hKn
  obtain ⟨cf, kf, fi, f, hi, hsl⟩ := hS k h2
  have hlay := u_lays X.ts h4 h2
  have hst := (u_facts hfc hkC hlay hi).1
  have hsd := u_fits hfc hkC hkind hlay hi hty hn hfit
  have hcf : m.cls = cf := by
    have hlay2 := X.ts _ (h4 _ (u_in_lay h2))
    unfold u_lay at hlay2
    rw [if_pos hfin] at hlay2
    obtain ⟨_, _, c', _, _, _, -, -, hf', -, -, -, hown2, -⟩ := Cond.laysFinal_spec hlay2
    have e9 : c' = cf := by have := hi.symm.trans hf'; simp at this; exact this.1.symm
    rw [hown] at hown2
    rw [← e9]; exact Option.some.inj (X.ow.symm.trans hown2)
  refine W.putFinK X.x X.b X.ow (X.ts _ h3) (ax_same X.ts h7 _ hi) hst hcf (X.ini hini) (by rw [q2]; exact hsd) q1 q3 (by rw [hsl]; exact k2_hasslot (q4 k h2)) rfl rfl hd fun H' e1 e2 e3 => ?_
  refine kk H' _ ls (ax_set X.i hH ha hna (fun _ => ?_) e2 e3) (ax_locs hl (ax_bsle X.i hna)) hv
  rw [hsl] at e1
  refine ⟨_, hc, t_OB.to (V := updV (vp_V (fs.map (ax_v G.ph))) k (ax_v G.ph v)) ⟨_, e1, q2, q3, t_set q4 hap h2 _⟩ (fun j _ => ?_)⟩
  rw [vp_updV_set (by rw [List.length_map]; exact hk), ← ax_setmap]
theorem AW.gets (X : ax_X p m meth c s args V G cc nL own pl ret) {idx : Nat} {C nm ds : String} {v : Value} (hz : (C, nm, ds, v) ∈ V.zs) (hlink : Cond.fieldLink own idx C nm ds ∈ V.ts) (hd : decode cc pc = .ok (.getstatic idx, 3)) (kk : AW p l e R s m args below meth c V G nL h cells slots Q (pc + 3) lv (v :: r)) : AW p l e R s m args below meth c V G nL h cells slots Q pc lv r := by
  intro H locs ls hH hl hv
  obtain ⟨cf, kf, fi, f, a, cell, h1, h2, h3, h4, h5, h6, h7, h8⟩ := X.k.2.2.1 _ hz
  exact W.gets X.x X.b X.ow (X.ts _ hlink) h1 h2 h3 h4 (by rw [hH.2.2.2 a (Nat.not_le.mp h8)]; exact h5) (fun e => by rw [e] at h6; cases h6) h7 rfl hd (kk H locs ls hH hl hv)
theorem AW.getsE (X : ax_X p m meth c s args V G cc nL own pl ret) {idx : Nat} (hlink : Cond.fieldLink own idx "jdk/internal/util/Preconditions" "SIOOBE_FORMATTER" "Ljava/util/function/BiFunction;" ∈ V.ts) (hd : decode cc pc = .ok (.getstatic idx, 3)) (k1 : AW p l e R s m args below meth c V G nL h cells slots Q (pc + 3) lv (.null :: r)) (k2 : ∀ x : Nat, AW p l e R s m args below meth c V G nL h cells slots Q (pc + 3) lv (.ref x :: r)) : AW p l e R s m args below meth c V G nL h cells slots Q pc lv r := by
  intro H locs ls hH hl hv
  rcases X.k.2.2.2.2.2.2.2.2.2 with ⟨cf, kf, fi, f, a, cell, h1, h2, h3, h4, h5, h6, h7, h8⟩ | ⟨x, cf, kf, fi, f, a, cell, h1, h2, h3, h4, h5, h6, h7, h8⟩
  · exact W.gets X.x X.b X.ow (X.ts _ hlink) h1 h2 h3 h4 (by rw [hH.2.2.2 a (Nat.not_le.mp h8)]; exact h5) (fun e => by rw [e] at h6; cases h6) h7 rfl hd (k1 H locs ls hH hl hv)
  · exact W.gets X.x X.b X.ow (X.ts _ hlink) h1 h2 h3 h4 (by rw [hH.2.2.2 a (Nat.not_le.mp h8)]; exact h5) (fun e => by rw [e] at h6; cases h6) h7 rfl hd (k2 x H locs ls hH hl hv)
/-- a static array is read -/
theorem AW.tiald (X : ax_X p m meth c s args V G cc nL own pl ret) {N : Nat} {f : Nat → Value} (hz : (a, .int, N, f) ∈ V.ta) (hi : i = nI j) (hj : j < N) (hn : N < 2 ^ 31) (hd : decode cc pc = .ok (.iaload, 1)) (k : AW p l e R s m args below meth c V G nL h cells slots Q (pc + 1) lv (f j :: r)) : AW p l e R s m args below meth c V G nL h cells slots Q pc lv (.int i :: .ref a :: r) := by
  obtain ⟨g1, g2⟩ := ax_inn hi hj hn
  intro H locs ls hH hl hv
  obtain ⟨cell, h1, h2, h3, h4, h5, h6, h7⟩ := X.k.2.2.2.1 _ hz
  refine W.iald X.x X.b (by rw [hH.2.2.2 _ (Nat.not_le.mp h7)]; exact h1) h2 h3 ?_ (v := ax_v G.ph (f j)) (by rw [g2]; exact h6 j hj) rfl rfl hd (k H locs ls hH hl hv)
  rintro (q | q)
  · exact g1 (Or.inl q)
  · rw [g2] at q
    have q4 : N ≤ cell.slots.size := h4
    omega
theorem AW.taald (X : ax_X p m meth c s args V G cc nL own pl ret) {C : String} {N : Nat} {f : Nat → Value} (hz : (a, .object C, N, f) ∈ V.ta) (hi : i = nI j) (hj : j < N) (hn : N < 2 ^ 31) (hd : decode cc pc = .ok (.aaload, 1)) (k : AW p l e R s m args below meth c V G nL h cells slots Q (pc + 1) lv (f j :: r)) : AW p l e R s m args below meth c V G nL h cells slots Q pc lv (.int i :: .ref a :: r) := by
  obtain ⟨g1, g2⟩ := ax_inn hi hj hn
  intro H locs ls hH hl hv
  obtain ⟨cell, h1, h2, h3, h4, h5, h6, h7⟩ := X.k.2.2.2.1 _ hz
  refine W.aald (ty := .object C) X.x X.b (by rw [hH.2.2.2 _ (Nat.not_le.mp h7)]; exact h1) h2 rfl h3 ?_ (v := ax_v G.ph (f j)) (by rw [g2]; exact h6 j hj) rfl rfl hd (k H locs ls hH hl hv)
  rintro (q | q)
  · exact g1 (Or.inl q)
  · rw [g2] at q
    have q4 : N ≤ cell.slots.size := h4
    omega
theorem AW.talen (X : ax_X p m meth c s args V G cc nL own pl ret) {ty : FieldType} {N : Nat} {f : Nat → Value} (hz : (a, ty, N, f) ∈ V.ta) (hd : decode cc pc = .ok (.arraylength, 1)) (k : AW p l e R s m args below meth c V G nL h cells slots Q (pc + 1) lv (.int (nI N) :: r)) : AW p l e R s m args below meth c V G nL h cells slots Q pc lv (.ref a :: r) := by
  intro H locs ls hH hl hv
  obtain ⟨cell, h1, h2, h3, h4, h5, h6, h7⟩ := X.k.2.2.2.1 _ hz
  exact W.alen X.x X.b (by rw [hH.2.2.2 _ (Nat.not_le.mp h7)]; exact h1) h2 h5 rfl rfl hd (k H locs ls hH hl hv)
end AXS
