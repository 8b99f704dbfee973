/-! RULES: statics, texts, arrays of references, inherited and abstract methods, copies of arrays -/
section AXMO
variable {p : Program} {l : Launch} {e : Env} {R : Room} {s : State} {m : MethodId} {args : Array Value} {below : List Frame} {meth : Method} {c : Code} {V : ax_V} {G : ax_G} {cc : ByteArray} {nL : Nat} {own : String} {pl : ax_pool} {ret : Option FieldType} {cells slots : Nat} {Q : State → Prop}
variable {pc : Nat} {lv : List (Nat × Value)} {r : List Value} {h : List va_E} {a t n j : Nat} {i : Int32}
theorem AW.ldcS (X : ax_X p m meth c s args V G cc nL own pl ret) {idx : Nat} {tx : String} (hz : (own, idx, tx, a) ∈ V.sr) (hd : decode cc pc = .ok (.ldc idx, 2)) (kk : AW p l e R s m args below meth c V G nL h cells slots Q (pc + 2) lv (.ref a :: r)) : AW p l e R s m args below meth c V G nL h cells slots Q pc lv r :=
  fun H locs ls hH hl hv => va_ldcS X.x X.b X.ow (X.k.2.2.2.2.2.2.2.1 _ hz) hd (kk H locs ls hH hl hv)
/-- what a call of an inherited or abstract method rests on -/
def ax_CU (V : ax_V) (own : String) (index : Nat) (owner C : String) (x y : MethodName) (bytes : ByteArray) (maxL : Nat) (ret : Option FieldType) (n : Nat) : Prop :=
  Cond.methodLink own index x ∈ V.ts ∧ Cond.sameMethod x.cls owner x.name x.desc ∈ V.ts ∧ Cond.selects C x y ∈ V.ts ∧ Cond.instanceMethod y ∈ V.ts ∧ Cond.initialized y.cls ∈ V.ts ∧ Cond.code y bytes maxL ret ∈ V.ts ∧ (⟨owner, x.name, x.desc⟩ : MethodName) ∈ V.dc ∧ (owner ≠ "java/lang/invoke/MethodHandle" ∧ owner ≠ "java/lang/invoke/VarHandle" ∧ (parseMethodDescriptor x.desc).map (fun d => d.parameters.length) = some n)
theorem AW.callU (X : ax_X p m meth c s args V G cc nL own pl ret) {index ci : Nat} {owner : String} {x y : MethodName} {bytes : ByteArray} {maxL d mc ms : Nat} {ret' : Option FieldType} {As fs : List Value} {rc : vw_C} {Qa : Option Value → List va_E → Prop} (hM : AM l V G y bytes maxL ret' d mc ms (.ref a :: As) h Qa) (hw : ax_CU V own index owner rc.1 x y bytes maxL ret' n) (ha : h[a]? = some (.inr (ci, fs))) (hc : V.cl[ci]? = some rc) (hn : As.length = n) (hR : d + 1 ≤ R.frames ∧ 19 + maxL + 40 * d ≤ R.locals) (hr : (r.map fun v => v.category).sum ≤ 8) (hf : cells + mc ≤ R.cells ∧ slots + ms ≤ R.slots) (hd : decode cc pc = .ok (.invokevirtual index, 3))
    (kk : ∀ (v : Option Value) (h' : List va_E), Qa v h' → AW p l e R s m args below meth c V G nL h' (cells + mc) (slots + ms) Q (pc + 3) lv (v.toList ++ r)) : AW p l e R s m args below meth c V G nL h cells slots Q pc lv (As.reverse ++ .ref a :: r) := by
  obtain ⟨w1, w2, w3, w4, w5, w6, w7, w8⟩ := hw
  refine AW.callR (fun H locs ls hH hv => va_runU (C := rc.1) (b := G.ph a) (As := As.map (ax_v G.ph)) ⟨X.x, X.b, X.ml, X.ow, X.ts⟩ (hM X.i) (va_cwA (Ts := V.ts) n X.ts (fun w hw => ?_) rfl rfl rfl (X.k.2.2.2.2.2.1 _ w7) w8 ⟨hR.1, ?_⟩) ⟨ax_blind (As := .ref a :: As), ax_recv X.k hH ha hc, fun U hU hW => ⟨rfl, X.k.moved hW, by rw [hU]; exact hH⟩⟩ rfl (by rw [List.length_map]; exact hn) hv.1 (by rw [List.map_append, List.map_reverse]; rfl) (ax_rm8 hr) hd hf) kk
  · unfold va_wsU at hw
    rcases List.mem_append.mp hw with q | q
    · simp only [List.mem_cons, List.not_mem_nil, or_false] at q
      rcases q with rfl | rfl | rfl | rfl | rfl
      · exact X.gd _ w1
      · exact X.gd _ w2
      · exact X.gd _ w3
      · exact X.gd _ w4
      · exact X.gd _ w5
    · rcases List.mem_cons.mp q with e1 | e1
      · rw [e1]; exact X.gd _ w6
      · exact X.gd _ e1
  · show 8 + (maxL + 11) + 40 * d ≤ R.locals
    omega
theorem AW.anew (X : ax_X p m meth c s args V G cc nL own pl ret) {idx N : Nat} {C : String} {x : Int32} (hlink : Cond.classLink own idx C ∈ V.ts) (hao : C ∈ V.ao) (ht : V.tl[t]? = some (.object C)) (hx : x = nI N) (hN : N < 2 ^ 16) (hcells : cells + 1 ≤ R.cells) (hslots : slots + N ≤ R.slots) (hd : decode cc pc = .ok (.anewarray idx, 3)) (kk : AW p l e R s m args below meth c V G nL (h ++ [.inl (t, N, .inr (.inr (.inr (.inr (fun _ => none)))))]) (cells + 1) (slots + N) Q (pc + 3) lv (.ref h.length :: r)) : AW p l e R s m args below meth c V G nL h cells slots Q pc lv (.int x :: r) := by
  intro H locs ls hH hl hv
  subst hx
  have hcl : (nI N).toNatClampNeg = N := nI_clamp (by omega)
  refine W.anew X.x X.b X.ow (X.ts _ hlink) (va_AO.use (X.k.2.2.2.2.2.2.1 _ hao)) rfl hd rfl (nI_pos (by omega)) (by rw [hcl]; omega) hcells (by rw [hcl]; exact hslots) fun cA kA comp f1 f2 f3 f4 => ?_
  rw [hcl]
  have hcA : cA = G.ca t := by
    obtain ⟨kA', comp', g1, g2, g3, g4⟩ := (X.k.2.1 t _ ht).2
    exact Option.some.inj (f1.symm.trans g4)
  subst hcA
  generalize hH1 : H.push ({ cls := G.ca t, slots := Array.replicate N .null, vm := .none } : Cell) = H1
  have z1 : H1.size = H.size + 1 := by rw [← hH1, Array.size_push]
  have e1 : H1[H.size]? = some (arrV (G.ca t) N (fun _ => .null)) := by rw [← hH1, Array.getElem?_push_size, ← arrV_new]
  have o1 : ∀ q : Nat, q < H.size → H1[q]? = H[q]? := fun q hq => by rw [← hH1, Array.getElem?_push, if_neg (Nat.ne_of_lt hq)]
  obtain ⟨g1, g2⟩ := ax_new (c := .inl (t, N, .inr (.inr (.inr (.inr (fun _ => none)))))) X.i hH (by show H1[H.size]? = some (vp_cell (G.ca t) (N, .inr (.inr (.inr (.inr (fun _ => none)))))); rw [vp_cell_q]; exact e1) z1 o1
  have k1 := kk H1 locs ls g1 hl hv
  rw [List.map_cons, show ax_v G.ph (.ref h.length) = .ref (G.ph h.length) from rfl, g2] at k1
  exact k1
theorem ax_nn {z : Int32} {n : Nat} (hz : z = nI n) (hn : n < 2 ^ 31) : ¬ z < 0 ∧ z.toNatClampNeg = n ∧ z.toInt = (n : Int) := by
  subst hz
  exact ⟨nI_pos hn, nI_clamp hn, by have h1 := nI_clamp hn; have h2 := nI_pos hn; have h3 := Int32.le_iff_toInt_le.mp (Int32.not_lt.mp h2); have h4 : (nI n).toInt.toNat = n := h1; have h5 : (0 : Int32).toInt = 0 := rfl; omega⟩
/-- what System.arraycopy rests on -/
def ax_AC (V : ax_V) (own : String) (index : Nat) : Prop := Cond.methodLink own index arraycopyName ∈ V.ts ∧ Cond.native arraycopyName ∈ V.ts ∧ Cond.static arraycopyName ∈ V.ts ∧ Cond.initialized "java/lang/System" ∈ V.ts
theorem ax_cat_sum (ph : Nat → Nat) (r : List Value) : ((r.map (ax_v ph)).map fun v => v.category).sum = (r.map fun v => v.category).sum := by
  rw [List.map_map]
  exact congrArg (fun f => (r.map f).sum) (funext fun v => ax_cat ph v)
theorem AW.copyi (X : ax_X p m meth c s args V G cc nL own pl ret) {index a0 t0 n0 n1 sp dp : Nat} {f g : Nat → Int32} {ty : FieldType} {i0 i1 i2 : Int32} (ha0 : h[a0]? = some (.inl (t0, n0, .inl f))) (ha1 : h[a]? = some (.inl (t, n1, .inl g))) (ht0 : V.tl[t0]? = some ty) (ht1 : V.tl[t]? = some ty) (hprim : refKind ty = false) (hna : ax_nC ≤ a)
    (hw : ax_AC V own index) (e0 : i0 = nI sp) (e1 : i1 = nI dp) (e2 : i2 = nI n) (h4 : sp + n ≤ n0) (h5 : dp + n ≤ n1) (hb0 : n0 < 2 ^ 31) (hb1 : n1 < 2 ^ 31) (hfit : ∀ i, i < n → fits ty (.int (f (sp + i))) = true) (hframes : 1 ≤ R.frames) (hlocals : 40 ≤ R.locals) (hr : (r.map fun v => v.category).sum ≤ 8) (hd : decode cc pc = .ok (.invokestatic index, 3))
    (kk : AW p l e R s m args below meth c V G nL (h.set a (.inl (t, n1, .inl (va_cpy f g sp dp n)))) cells slots Q (pc + 3) lv r) : AW p l e R s m args below meth c V G nL h cells slots Q pc lv (.int i2 :: .int i1 :: .ref a :: .int i0 :: .ref a0 :: r) := by
  obtain ⟨w1, w2, w3, w4⟩ := hw
  obtain ⟨p1, p2, p3⟩ := ax_nn e0 (by omega)
  obtain ⟨q1, q2, q3⟩ := ax_nn e1 (by omega)
  obtain ⟨r1, r2, r3⟩ := ax_nn e2 (by omega)
  intro H locs ls hH hl hv T hT X0
  have hc0 : H[G.ph a0]? = some (vp_cell (G.ca t0) (n0, .inl f)) := hH.1 a0 _ ha0 rfl
  have hc1 : H[G.ph a]? = some (vp_cell (G.ca t) (n1, .inl g)) := hH.1 a _ ha1 rfl
  obtain ⟨-, k0, hk0, cm0, hkk0⟩ := (X.k.2.1 t0 _ ht0).1 n0 (fun j => .int (f j))
  obtain ⟨-, k1, hk1, cm1, hkk1⟩ := (X.k.2.1 t _ ht1).1 n1 (fun j => .int (g j))
  obtain ⟨vm', X', step⟩ := X0.arraycopy X.x X.ow (X.ts _ w1) (X.ts _ w2) (X.ts _ w3) (X.ts _ w4) (src := G.ph a0) (dst := G.ph a) (cs := vp_cell (G.ca t0) (n0, .inl f)) (cd := vp_cell (G.ca t) (n1, .inl g)) (srcPos := i0) (destPos := i1) (n := i2) (by rw [hT]; exact hc0) (by rw [hT]; exact hc1)
    (fun _ h => by cases h) (fun _ h => by cases h) (fun h => by cases h) (fun h => by cases h) hk0 hk1 hkk0 hkk1 (by simp [hprim]) p1 q1 r1
    (by rw [p3, r3]; show ¬ _ > ((arrV (G.ca t0) n0 (fun j => .int (f j))).slots.size : Int); rw [arrV_size]; omega)
    (by rw [q3, r3]; show ¬ _ > ((arrV (G.ca t) n1 (fun j => .int (g j))).slots.size : Int); rw [arrV_size]; omega)
    (fun vm₁ _ i hi => by
      rw [r2] at hi
      have e : (vp_cell (G.ca t0) (n0, .inl f)).slots.getD (i0.toNatClampNeg + i) .null = .int (f (sp + i)) := by
        show (arrV (G.ca t0) n0 (fun j => .int (f j))).slots.getD _ _ = _
        rw [p2, Array.getD_eq_getD_getElem?, arrV_read _ _ (by omega)]
        rfl
      refine ⟨?_, ?_⟩
      · rw [e]
        exact hfit i hi
      · rw [e]
        exact trivial)
    (g := F0 m pc ls ((.int i2 :: .int i1 :: .ref a :: .int i0 :: .ref a0 :: r).map (ax_v G.ph))) rfl (by rw [X.ml]; exact hv.1) (rest := r.map (ax_v G.ph)) rfl (by rw [X.b]; exact hd) hframes (by
      show 2 * 0 + _ + _ ≤ _
      have z1 := ax_cat_sum G.ph r
      have z2 : nativeFrameWords "java/lang/System" "arraycopy" 5 + 11 ≤ 32 := by decide
      omega)
  have e1 : copied (vp_cell (G.ca t0) (n0, .inl f)) (vp_cell (G.ca t) (n1, .inl g)) i0 i1 i2 = vp_cell (G.ca t) (n1, .inl (va_cpy f g sp dp n)) := by
    rw [← p2, ← q2, ← r2]
    exact va_copied (fun z => .int z) (G.ca t0) (G.ca t) f g (by rw [p2, r2]; exact h4)
  rw [e1] at X' step
  have hlt : G.ph a < H.size := (Array.getElem?_eq_some_iff.mp hc1).1
  have hheap : ((T.setVm vm').setCell (G.ph a) (vp_cell (G.ca t) (n1, .inl (va_cpy f g sp dp n)))).heap = H.setIfInBounds (G.ph a) (vp_cell (G.ca t) (n1, .inl (va_cpy f g sp dp n))) := by rw [← hT]; rfl
  have oq : ∀ q : Nat, q ≠ G.ph a → (H.setIfInBounds (G.ph a) (vp_cell (G.ca t) (n1, .inl (va_cpy f g sp dp n))))[q]? = H[q]? := fun q hq => by simp [Array.getElem?_setIfInBounds, Ne.symm hq]
  obtain ⟨t9, a1, b1⟩ := kk (H.setIfInBounds (G.ph a) (vp_cell (G.ca t) (n1, .inl (va_cpy f g sp dp n)))) _ ls (ax_set X.i hH ha1 hna (fun _ => show (H.setIfInBounds (G.ph a) _)[G.ph a]? = some _ by simp [Array.getElem?_setIfInBounds, hlt]; rfl) (by simp) oq) (fun q hq => by
      rcases List.mem_append.mp hq with h | h
      · exact hl q h
      · obtain ⟨z, -, hz⟩ := List.mem_map.mp h
        rw [← hz]
        exact ax_bsle X.i hna) hv _ hheap X'
  exact ⟨t9, step t9 a1, b1⟩
theorem AW.copyq (X : ax_X p m meth c s args V G cc nL own pl ret) {index a0 t0 n0 n1 sp dp ci : Nat} {f g : Nat → Option Nat} {E : String} {rc : vw_C} {i0 i1 i2 : Int32} (ha0 : h[a0]? = some (.inl (t0, n0, .inr (.inr (.inr (.inr f)))))) (ha1 : h[a]? = some (.inl (t, n1, .inr (.inr (.inr (.inr g)))))) (ht0 : V.tl[t0]? = some (.object E)) (ht1 : V.tl[t]? = some (.object E)) (hna : ax_nC ≤ a) (hc : V.cl[ci]? = some rc) (hE : rc.1 = E)
    (hw : ax_AC V own index) (e0 : i0 = nI sp) (e1 : i1 = nI dp) (e2 : i2 = nI n) (h4 : sp + n ≤ n0) (h5 : dp + n ≤ n1) (hb0 : n0 < 2 ^ 31) (hb1 : n1 < 2 ^ 31) (hel : ∀ i, i < n → ∀ y, f (sp + i) = some y → ∃ fs, h[y]? = some (.inr (ci, fs))) (hframes : 1 ≤ R.frames) (hlocals : 40 ≤ R.locals) (hr : (r.map fun v => v.category).sum ≤ 8) (hd : decode cc pc = .ok (.invokestatic index, 3))
    (kk : AW p l e R s m args below meth c V G nL (h.set a (.inl (t, n1, .inr (.inr (.inr (.inr (va_cpy f g sp dp n))))))) cells slots Q (pc + 3) lv r) : AW p l e R s m args below meth c V G nL h cells slots Q pc lv (.int i2 :: .int i1 :: .ref a :: .int i0 :: .ref a0 :: r) := by
  obtain ⟨w1, w2, w3, w4⟩ := hw
  obtain ⟨p1, p2, p3⟩ := ax_nn e0 (by omega)
  obtain ⟨q1, q2, q3⟩ := ax_nn e1 (by omega)
  obtain ⟨r1, r2, r3⟩ := ax_nn e2 (by omega)
  intro H locs ls hH hl hv T hT X0
  have hc0 : H[G.ph a0]? = some (vp_cell (G.ca t0) (n0, .inr (.inr (.inr (.inr (fun j => ax_o G.ph (f j))))))) := hH.1 a0 _ ha0 rfl
  have hc1 : H[G.ph a]? = some (vp_cell (G.ca t) (n1, .inr (.inr (.inr (.inr (fun j => ax_o G.ph (g j))))))) := hH.1 a _ ha1 rfl
  obtain ⟨-, k0, hk0, cm0, hkk0⟩ := (X.k.2.1 t0 _ ht0).1 n0 (fun j => va_rf (ax_o G.ph (f j)))
  obtain ⟨-, k1, hk1, cm1, hkk1⟩ := (X.k.2.1 t _ ht1).1 n1 (fun j => va_rf (ax_o G.ph (g j)))
  obtain ⟨vm', X', step⟩ := X0.arraycopy X.x X.ow (X.ts _ w1) (X.ts _ w2) (X.ts _ w3) (X.ts _ w4) (src := G.ph a0) (dst := G.ph a) (cs := vp_cell (G.ca t0) (n0, .inr (.inr (.inr (.inr (fun j => ax_o G.ph (f j))))))) (cd := vp_cell (G.ca t) (n1, .inr (.inr (.inr (.inr (fun j => ax_o G.ph (g j))))))) (srcPos := i0) (destPos := i1) (n := i2) (by rw [hT]; exact hc0) (by rw [hT]; exact hc1)
    (fun _ h => by cases h) (fun _ h => by cases h) (fun h => by cases h) (fun h => by cases h) hk0 hk1 hkk0 hkk1 rfl p1 q1 r1
    (by rw [p3, r3]; show ¬ _ > ((arrV (G.ca t0) n0 (fun j => va_rf (ax_o G.ph (f j)))).slots.size : Int); rw [arrV_size]; omega)
    (by rw [q3, r3]; show ¬ _ > ((arrV (G.ca t) n1 (fun j => va_rf (ax_o G.ph (g j)))).slots.size : Int); rw [arrV_size]; omega)
    (fun vm₁ hal i hi => by
      rw [r2] at hi
      have e : (vp_cell (G.ca t0) (n0, .inr (.inr (.inr (.inr (fun j => ax_o G.ph (f j))))))).slots.getD (i0.toNatClampNeg + i) .null = va_rf (ax_o G.ph (f (sp + i))) := by
        show (arrV (G.ca t0) n0 (fun j => va_rf (ax_o G.ph (f j)))).slots.getD _ _ = _
        rw [p2, Array.getD_eq_getD_getElem?, arrV_read _ _ (by omega)]
        rfl
      rw [e]
      cases hy : f (sp + i) with
      | none => exact ⟨rfl, trivial⟩
      | some y =>
        obtain ⟨fs, hfs⟩ := hel i hi y hy
        obtain ⟨r', hr', cellV, g1, g2, g3, -⟩ := hH.1 y _ hfs rfl
        have hcls := (X.k.1 _ _ hc).2
        obtain ⟨kA, comp, s1, s2, s3, -⟩ := (X.k.2.1 t _ ht1).2
        cases hk1.symm.trans s1
        cases hkk1.symm.trans s2
        obtain ⟨kC, hkC⟩ := hcls.2
        obtain ⟨kE, hkE, -⟩ := Vm.findClass_spec s3
        obtain ⟨kC', hkC', -⟩ := hal.2.2 _ _ hkC
        obtain ⟨kE', hkE', -⟩ := hal.2.2 _ _ hkE
        refine ⟨rfl, cellV, (show T.heap[G.ph y]? = some cellV by rw [hT]; exact g1), (fun q h => by rw [h] at g3; cases g3.2.1), ⟨kC', by rw [g2]; exact hkC'⟩, ?_, ?_⟩
        · exact ⟨kE', hkE'⟩
        · show vm₁.assignable _ _ = true
          rw [hal.assignable, g2]
          have hcl1 := hcls.1
          rw [hE] at hcl1
          cases hcl1.symm.trans s3
          exact va_asg _ _)
    (g := F0 m pc ls ((.int i2 :: .int i1 :: .ref a :: .int i0 :: .ref a0 :: r).map (ax_v G.ph))) rfl (by rw [X.ml]; exact hv.1) (rest := r.map (ax_v G.ph)) rfl (by rw [X.b]; exact hd) hframes (by
      show 2 * 0 + _ + _ ≤ _
      have z1 := ax_cat_sum G.ph r
      have z2 : nativeFrameWords "java/lang/System" "arraycopy" 5 + 11 ≤ 32 := by decide
      omega)
  have e1 : copied (vp_cell (G.ca t0) (n0, .inr (.inr (.inr (.inr (fun j => ax_o G.ph (f j))))))) (vp_cell (G.ca t) (n1, .inr (.inr (.inr (.inr (fun j => ax_o G.ph (g j))))))) i0 i1 i2 = vp_cell (G.ca t) (n1, .inr (.inr (.inr (.inr (fun j => ax_o G.ph (va_cpy f g sp dp n j)))))) := by
    rw [vp_cell_q, vp_cell_q, vp_cell_q, ← p2, ← q2, ← r2]
    have z := va_copied (fun z => va_rf (ax_o G.ph z)) (G.ca t0) (G.ca t) (n0 := n0) (n1 := n1) (sp := i0.toNatClampNeg) (dp := i1.toNatClampNeg) (n := i2.toNatClampNeg) f g (by rw [p2, r2]; exact h4)
    exact z
  rw [e1] at X' step
  have hlt : G.ph a < H.size := (Array.getElem?_eq_some_iff.mp hc1).1
  have hheap : ((T.setVm vm').setCell (G.ph a) (vp_cell (G.ca t) (n1, .inr (.inr (.inr (.inr (fun j => ax_o G.ph (va_cpy f g sp dp n j)))))))).heap = H.setIfInBounds (G.ph a) (vp_cell (G.ca t) (n1, .inr (.inr (.inr (.inr (fun j => ax_o G.ph (va_cpy f g sp dp n j))))))) := by rw [← hT]; rfl
  have oq : ∀ q : Nat, q ≠ G.ph a → (H.setIfInBounds (G.ph a) (vp_cell (G.ca t) (n1, .inr (.inr (.inr (.inr (fun j => ax_o G.ph (va_cpy f g sp dp n j))))))))[q]? = H[q]? := fun q hq => by simp [Array.getElem?_setIfInBounds, Ne.symm hq]
  obtain ⟨t9, a1, b1⟩ := kk (H.setIfInBounds (G.ph a) (vp_cell (G.ca t) (n1, .inr (.inr (.inr (.inr (fun j => ax_o G.ph (va_cpy f g sp dp n j)))))))) _ ls (ax_set X.i hH ha1 hna (fun _ => show (H.setIfInBounds (G.ph a) _)[G.ph a]? = some _ by simp [Array.getElem?_setIfInBounds, hlt]; rfl) (by simp) oq) (fun q hq => by
      rcases List.mem_append.mp hq with h | h
      · exact hl q h
      · obtain ⟨z, -, hz⟩ := List.mem_map.mp h
        rw [← hz]
        exact ax_bsle X.i hna) hv _ hheap X'
  exact ⟨t9, step t9 a1, b1⟩
/-- what a clone of an array rests on -/
def ax_CN (V : ax_V) (own : String) (index : Nat) (ad : String) : Prop := Cond.methodLink own index ⟨ad, "clone", "()Ljava/lang/Object;"⟩ ∈ V.ts ∧ Cond.sameMethod ad "java/lang/Object" "clone" "()Ljava/lang/Object;" ∈ V.ts ∧ Cond.native ⟨"java/lang/Object", "clone", "()Ljava/lang/Object;"⟩ ∈ V.ts ∧ Cond.instanceMethod ⟨"java/lang/Object", "clone", "()Ljava/lang/Object;"⟩ ∈ V.ts ∧ Cond.selects ad ⟨ad, "clone", "()Ljava/lang/Object;"⟩ ⟨"java/lang/Object", "clone", "()Ljava/lang/Object;"⟩ ∈ V.ts ∧ (ad, "java/lang/Cloneable") ∈ V.ct
theorem AW.clone (X : ax_X p m meth c s args V G cc nL own pl ret) {index N : Nat} {ad : String} {f : Nat → Int32} {ty : FieldType} (hw : ax_CN V own index ad) (ha : h[a]? = some (.inl (t, N, .inl f))) (ht : V.tl[t]? = some ty) (hnm : ∀ (cA : ClassId) (U : State), va_RA U cA ty → U.vm.findClass ad = some cA) (hfit : ∀ i, i < N → fits ty (.int (f i)) = true) (hframes : 1 ≤ R.frames) (hlocals : 40 ≤ R.locals) (hr : (r.map fun v => v.category).sum ≤ 8) (hcells : cells + 1 ≤ R.cells) (hslots : slots + N ≤ R.slots) (hd : decode cc pc = .ok (.invokevirtual index, 3))
    (kk : AW p l e R s m args below meth c V G nL (h ++ [.inl (t, N, .inl f)]) (cells + 1) (slots + N) Q (pc + 3) lv (.ref h.length :: r)) : AW p l e R s m args below meth c V G nL h cells slots Q pc lv (.ref a :: r) := by
  obtain ⟨w1, w2, w3, w4, w5, w6⟩ := hw
  intro H locs ls hH hl hv T hT X0
  obtain ⟨c0, t0', f1, f2, f3⟩ := Cond.castable_spec (va_Nw.use (A := args) rfl (X.k.2.2.2.2.1 _ w6))
  have hnm' := hnm _ _ (X.k.2.1 t _ ht).2
  cases hnm'.symm.trans f1
  have hcell : H[G.ph a]? = some (vp_cell (G.ca t) (N, .inl f)) := hH.1 a _ ha rfl
  have hcellT : T.heap[G.ph a]? = some (vp_cell (G.ca t) (N, .inl f)) := by rw [hT]; exact hcell
  have hsz : (vp_cell (G.ca t) (N, .inl f)).slots.size = N := arrV_size _ _ _
  obtain ⟨-, kA, hkA, comp, hkind⟩ := State.isArrayOf_alike X0.warmed.alike ((X.k.2.1 t _ ht).1 0 (fun _ => .null))
  obtain ⟨-, kS, hkS, compS, hkindS⟩ := (X.k.2.1 t _ ht).1 0 (fun _ => .null)
  obtain ⟨vm', X', st⟩ := X0.cloneArray X.x X.ow (X.ts _ w1) (X.ts _ w2) (X.ts _ w3) (X.ts _ w4) (X.ts _ w5) (a := G.ph a) (cell := vp_cell (G.ca t) (N, .inl f)) hcellT (fun k h => by cases h) (fun h => by cases h) hnm' f2 f3
    (fun i v hv => by
      have hk' : T.vm.classes[(vp_cell (G.ca t) (N, .inl f)).cls]? = some kA := hkA
      have hi : i < N := by
        have := (Array.getElem?_eq_some_iff.mp hv).1
        rw [hsz] at this
        exact this
      have e : (vp_cell (G.ca t) (N, .inl f)).slots[i]? = some (.int (f i)) := arrV_read _ _ hi
      cases e.symm.trans hv
      simpa [State.fitsSlot, State.slotType?, hk', hkind] using hfit i hi)
    (g := F0 m pc ls ((.ref a :: r).map (ax_v G.ph))) rfl (by rw [X.ml]; exact hv.1) rfl (by rw [X.b]; exact hd) hframes (by
      show 2 * 0 + _ + 14 ≤ _
      have z1 := ax_cat_sum G.ph r
      omega) hcells (by rw [hsz]; exact hslots) (hloader := Vm.clonesLoader_of_array hkS hkindS)
  rw [hsz] at X'
  generalize hH1 : H.push (vp_cell (G.ca t) (N, .inl f)) = H1
  have z1 : H1.size = H.size + 1 := by rw [← hH1, Array.size_push]
  have e1 : H1[H.size]? = some (vp_cell (G.ca t) (N, .inl f)) := by rw [← hH1, Array.getElem?_push_size]
  have o1 : ∀ q : Nat, q < H.size → H1[q]? = H[q]? := fun q hq => by rw [← hH1, Array.getElem?_push, if_neg (Nat.ne_of_lt hq)]
  obtain ⟨g1, g2⟩ := ax_new (c := .inl (t, N, .inl f)) X.i hH e1 z1 o1
  obtain ⟨t9, b1, b2⟩ := kk H1 locs ls g1 hl hv ((T.setVm vm').pushCell (vp_cell (G.ca t) (N, .inl f))) (by rw [← hH1, ← hT]; rfl) X'
  refine ⟨t9, st t9 ?_, b2⟩
  rw [hT]
  rw [List.map_cons, show ax_v G.ph (.ref h.length) = .ref (G.ph h.length) from rfl, g2] at b1
  exact b1
theorem AW.castA (X : ax_X p m meth c s args V G cc nL own pl ret) {index N : Nat} {nm : String} {f : Nat → Int32} {ty : FieldType} (hlink : Cond.classLink own index nm ∈ V.ts) (ha : h[a]? = some (.inl (t, N, .inl f))) (ht : V.tl[t]? = some ty) (hnm : ∀ (cA : ClassId) (U : State), va_RA U cA ty → U.vm.findClass nm = some cA) (hd : decode cc pc = .ok (.checkcast index, 3))
    (kk : AW p l e R s m args below meth c V G nL h cells slots Q (pc + 3) lv (.ref a :: r)) : AW p l e R s m args below meth c V G nL h cells slots Q pc lv (.ref a :: r) := by
  intro H locs ls hH hl hv T hT X0
  have hcell : H[G.ph a]? = some (vp_cell (G.ca t) (N, .inl f)) := hH.1 a _ ha rfl
  obtain ⟨vm', X', st⟩ := X0.checkcastYes X.x X.ow (X.ts _ hlink) (by rw [hT]; exact hcell) rfl (hnm _ _ (X.k.2.1 t _ ht).2) (va_asg _ _) (g := F0 m pc ls ((.ref a :: r).map (ax_v G.ph))) rfl rfl (by rw [X.b]; exact hd)
  obtain ⟨t9, a1, b1⟩ := kk H locs ls hH hl hv (T.setVm vm') hT X'
  exact ⟨t9, st t9 a1, b1⟩
/-- a static array of bytes is read -/
theorem AW.tbald (X : ax_X p m meth c s args V G cc nL own pl ret) {N : Nat} {f : Nat → Value} (hz : (a, .byte, N, f) ∈ V.ta) (hi : i = nI j) (hj : j < N) (hn : N < 2 ^ 31) (hd : decode cc pc = .ok (.baload, 1)) (k : AW p l e R s m args below meth c V G nL h cells slots Q (pc + 1) lv (f j :: r)) : AW p l e R s m args below meth c V G nL h cells slots Q pc lv (.int i :: .ref a :: r) := by
  obtain ⟨g1, g2⟩ := ax_inn hi hj hn
  intro H locs ls hH hl hv
  obtain ⟨cell, h1, h2, h3, h4, h5, h6, h7⟩ := X.k.2.2.2.1 _ hz
  refine W.bald X.x X.b (by rw [hH.2.2.2 _ (Nat.not_le.mp h7)]; exact h1) h2 h3 ?_ (v := ax_v G.ph (f j)) (by rw [g2]; exact h6 j hj) rfl rfl hd (k H locs ls hH hl hv)
  rintro (q | q)
  · exact g1 (Or.inl q)
  · rw [g2] at q
    have q4 : N ≤ cell.slots.size := h4
    omega
end AXMO
section AXM2
variable {p : Program} {l : Launch} {e : Env} {R : Room} {s : State} {m : MethodId} {args : Array Value} {below : List Frame} {meth : Method} {c : Code} {G : ax_G} {cc : ByteArray} {nL : Nat} {own : String} {pl : ax_pool} {ret : Option FieldType} {cells slots : Nat} {Q : State → Prop}
variable {pc : Nat} {lv : List (Nat × Value)} {r : List Value} {S : x_S} {M : x_M} {tl : List va_E} {j b : Nat} {i : Int32}
theorem AW.crl0 (X : ax_X p m meth c s args VV G cc nL own pl ret) (hi : i = nI j) (hj : j < 24) (hd : decode cc pc = .ok (.aaload, 1)) (kk : AW p l e R s m args below meth c VV G nL (x_hC S tl) cells slots Q (pc + 1) lv (va_rf (S.2.2.1 0 j) :: r)) : AW p l e R s m args below meth c VV G nL (x_hC S tl) cells slots Q pc lv (.int i :: .ref 136 :: r) :=
  AW.aald X rfl rfl hi hj (by decide) hd kk
theorem AW.crn0 (X : ax_X p m meth c s args VV G cc nL own pl ret) (hi : i = nI j) (hj : j < 24) (hd : decode cc pc = .ok (.aastore, 1)) (kk : AW p l e R s m args below meth c VV G nL (x_hC (x_r S 0 j none) tl) cells slots Q (pc + 1) lv r) : AW p l e R s m args below meth c VV G nL (x_hC S tl) cells slots Q pc lv (.null :: .int i :: .ref 136 :: r) :=
  AW.aastN (C := "NumberFunctions$Function") X rfl rfl (by decide) hi hj (by decide) hd (AW.eq (h' := x_hC (x_r S 0 j none) tl) rfl kk)
theorem AW.crs0 (X : ax_X p m meth c s args VV G cc nL own pl ret) {ci : Nat} {fs : List Value} {rc : vw_C} (hb : (x_hC S tl)[b]? = some (.inr (ci, fs))) (hc : VV.cl[ci]? = some rc) (hca : rc.1 = "NumberFunctions$Function" ∨ (rc.1, "NumberFunctions$Function") ∈ VV.ct) (hi : i = nI j) (hj : j < 24) (hd : decode cc pc = .ok (.aastore, 1)) (kk : AW p l e R s m args below meth c VV G nL (x_hC (x_r S 0 j (some b)) tl) cells slots Q (pc + 1) lv r) : AW p l e R s m args below meth c VV G nL (x_hC S tl) cells slots Q pc lv (.ref b :: .int i :: .ref 136 :: r) :=
  AW.aast (E := "NumberFunctions$Function") X rfl rfl (by decide) hb hc hca hi hj (by decide) hd (AW.eq (h' := x_hC (x_r S 0 j (some b)) tl) rfl kk)
theorem AW.crl1 (X : ax_X p m meth c s args VV G cc nL own pl ret) (hi : i = nI j) (hj : j < 400) (hd : decode cc pc = .ok (.aaload, 1)) (kk : AW p l e R s m args below meth c VV G nL (x_hC S tl) cells slots Q (pc + 1) lv (va_rf (S.2.2.1 1 j) :: r)) : AW p l e R s m args below meth c VV G nL (x_hC S tl) cells slots Q pc lv (.int i :: .ref 142 :: r) :=
  AW.aald X rfl rfl hi hj (by decide) hd kk
theorem AW.crn1 (X : ax_X p m meth c s args VV G cc nL own pl ret) (hi : i = nI j) (hj : j < 400) (hd : decode cc pc = .ok (.aastore, 1)) (kk : AW p l e R s m args below meth c VV G nL (x_hC (x_r S 1 j none) tl) cells slots Q (pc + 1) lv r) : AW p l e R s m args below meth c VV G nL (x_hC S tl) cells slots Q pc lv (.null :: .int i :: .ref 142 :: r) :=
  AW.aastN (C := "NumberFunctions$Word") X rfl rfl (by decide) hi hj (by decide) hd (AW.eq (h' := x_hC (x_r S 1 j none) tl) rfl kk)
theorem AW.crs1 (X : ax_X p m meth c s args VV G cc nL own pl ret) {ci : Nat} {fs : List Value} {rc : vw_C} (hb : (x_hC S tl)[b]? = some (.inr (ci, fs))) (hc : VV.cl[ci]? = some rc) (hca : rc.1 = "NumberFunctions$Word" ∨ (rc.1, "NumberFunctions$Word") ∈ VV.ct) (hi : i = nI j) (hj : j < 400) (hd : decode cc pc = .ok (.aastore, 1)) (kk : AW p l e R s m args below meth c VV G nL (x_hC (x_r S 1 j (some b)) tl) cells slots Q (pc + 1) lv r) : AW p l e R s m args below meth c VV G nL (x_hC S tl) cells slots Q pc lv (.ref b :: .int i :: .ref 142 :: r) :=
  AW.aast (E := "NumberFunctions$Word") X rfl rfl (by decide) hb hc hca hi hj (by decide) hd (AW.eq (h' := x_hC (x_r S 1 j (some b)) tl) rfl kk)
theorem AW.cp10 (X : ax_X p m meth c s args VV G cc nL own pl ret) {x : Int32} {idx : Nat} (hx : narrow .boolean (.int x) = .int x ∧ fits .boolean (.int x) = true) (hd : decode cc pc = .ok (.putfield idx, 3)) (kk : AW p l e R s m args below meth c VV G nL (x_hC (x_i S 10 x) tl) cells slots Q (pc + 3) lv r) (hf : pl.1 idx 4 = some 3 := by rfl) : AW p l e R s m args below meth c VV G nL (x_hC S tl) cells slots Q pc lv (.int x :: .ref 150 :: r) :=
  AW.put (C := "NumberFunctions$Machine") (T := Cl_K) (N := 4) (ty := .boolean) X rfl (by decide) hf rfl L_K rfl rfl hx.1 hx.2 (Nat.le_of_ble_eq_true rfl) hd (AW.eq (h' := x_hC (x_i S 10 x) tl) rfl kk)
def x_v (S : x_S) (v : Value) : x_S := (S.1, S.2.1, S.2.2.1, v)
theorem AW.cpv (X : ax_X p m meth c s args VV G cc nL own pl ret) {idx b : Nat} (hd : decode cc pc = .ok (.putfield idx, 3)) (kk : AW p l e R s m args below meth c VV G nL (x_hC (x_v S (.ref b)) tl) cells slots Q (pc + 3) lv r) (hf : pl.1 idx 3 = some 10 := by rfl) : AW p l e R s m args below meth c VV G nL (x_hC S tl) cells slots Q pc lv (.ref b :: .ref 141 :: r) :=
  AW.put (C := "NumberFunctions$Reader") (T := Cl_R) (N := 13) (ty := .array .byte) X rfl (by decide) hf rfl L_R rfl rfl rfl rfl (Nat.le_of_ble_eq_true rfl) hd (AW.eq (h' := x_hC (x_v S (.ref b)) tl) rfl kk)
end AXM2
theorem v_len : v_cst.length = 132 := by rfl
theorem x_cl (S : x_S) : (x_cs S).length = 21 := rfl
theorem x_tl (S : x_S) (tl : List va_E) (k : Nat) : (x_hC S tl)[153 + k]? = tl[k]? := by
  unfold x_hC
  have h1 := v_len
  have h2 := x_cl S
  generalize v_cst = A at *
  generalize x_cs S = B at *
  rw [List.getElem?_append_right (by omega), List.getElem?_append_right (by omega)]
  congr 1
  omega
theorem x_len (S : x_S) (tl : List va_E) : (x_hC S tl).length = 153 + tl.length := by
  unfold x_hC
  rw [List.length_append, List.length_append, v_len, x_cl]
  omega
theorem x_set (S : x_S) (tl : List va_E) (k : Nat) (c : va_E) : (x_hC S tl).set (153 + k) c = x_hC S (tl.set k c) := by
  unfold x_hC
  have h1 := v_len
  have h2 := x_cl S
  generalize v_cst = A at *
  generalize x_cs S = B at *
  rw [List.set_append_right _ _ (by omega), List.set_append_right _ _ (by omega)]
  congr 3
  omega
theorem x_app (S : x_S) (tl : List va_E) (c : va_E) : x_hC S tl ++ [c] = x_hC S (tl ++ [c]) := by
  unfold x_hC
  rw [List.append_assoc, List.append_assoc]
theorem gs_O_153 : ("NumberFunctions$Word", "ALL", "[LNumberFunctions$Word;", (.ref 87 : Value)) ∈ VV.zs ∧ Cond.fieldLink "NumberFunctions$Word" 153 "NumberFunctions$Word" "ALL" "[LNumberFunctions$Word;" ∈ VV.ts := ⟨List.mem_of_getElem? (i := 39) rfl, mt3 (List.mem_of_getElem? (i := 23) rfl)⟩
theorem gs_JString_38 : ("java/lang/String", "COMPACT_STRINGS", "Z", (.int 1 : Value)) ∈ VV.zs ∧ Cond.fieldLink "java/lang/String" 38 "java/lang/String" "COMPACT_STRINGS" "Z" ∈ VV.ts := ⟨List.mem_of_getElem? (i := 41) rfl, mt3 (List.mem_of_getElem? (i := 33) rfl)⟩
theorem gs_JString_1053 : Cond.fieldLink "java/lang/String" 1053 "jdk/internal/util/Preconditions" "SIOOBE_FORMATTER" "Ljava/util/function/BiFunction;" ∈ VV.ts := mt3 (List.mem_of_getElem? (i := 54) rfl)
theorem gs_R_85 : ("NumberFunctions$Word", "OPEN", "LNumberFunctions$Word;", (.ref 0 : Value)) ∈ VV.zs ∧ Cond.fieldLink "NumberFunctions$Reader" 85 "NumberFunctions$Word" "OPEN" "LNumberFunctions$Word;" ∈ VV.ts := ⟨List.mem_of_getElem? (i := 0) rfl, mt3 (List.mem_of_getElem? (i := 82) rfl)⟩
theorem gs_R_102 : ("NumberFunctions$Word", "IF", "LNumberFunctions$Word;", (.ref 37 : Value)) ∈ VV.zs ∧ Cond.fieldLink "NumberFunctions$Reader" 102 "NumberFunctions$Word" "IF" "LNumberFunctions$Word;" ∈ VV.ts := ⟨List.mem_of_getElem? (i := 37) rfl, mt3 (List.mem_of_getElem? (i := 84) rfl)⟩
theorem gs_R_105 : ("NumberFunctions$Word", "IFELSE", "LNumberFunctions$Word;", (.ref 38 : Value)) ∈ VV.zs ∧ Cond.fieldLink "NumberFunctions$Reader" 105 "NumberFunctions$Word" "IFELSE" "LNumberFunctions$Word;" ∈ VV.ts := ⟨List.mem_of_getElem? (i := 38) rfl, mt3 (List.mem_of_getElem? (i := 86) rfl)⟩
theorem gs_R_95 : ("NumberFunctions$Word", "NUMERAL", "LNumberFunctions$Word;", (.ref 2 : Value)) ∈ VV.zs ∧ Cond.fieldLink "NumberFunctions$Reader" 95 "NumberFunctions$Word" "NUMERAL" "LNumberFunctions$Word;" ∈ VV.ts := ⟨List.mem_of_getElem? (i := 2) rfl, mt3 (List.mem_of_getElem? (i := 109) rfl)⟩
theorem gs_R_108 : ("NumberFunctions$Word", "CLOSE", "LNumberFunctions$Word;", (.ref 1 : Value)) ∈ VV.zs ∧ Cond.fieldLink "NumberFunctions$Reader" 108 "NumberFunctions$Word" "CLOSE" "LNumberFunctions$Word;" ∈ VV.ts := ⟨List.mem_of_getElem? (i := 1) rfl, mt3 (List.mem_of_getElem? (i := 115) rfl)⟩
theorem gs_K_84 : ("NumberFunctions$Word", "NUMERAL", "LNumberFunctions$Word;", (.ref 2 : Value)) ∈ VV.zs ∧ Cond.fieldLink "NumberFunctions$Machine" 84 "NumberFunctions$Word" "NUMERAL" "LNumberFunctions$Word;" ∈ VV.ts := ⟨List.mem_of_getElem? (i := 2) rfl, mt4 (List.mem_of_getElem? (i := 2) rfl)⟩
theorem gs_K_87 : ("NumberFunctions$Word", "TRUE", "LNumberFunctions$Word;", (.ref 3 : Value)) ∈ VV.zs ∧ Cond.fieldLink "NumberFunctions$Machine" 87 "NumberFunctions$Word" "TRUE" "LNumberFunctions$Word;" ∈ VV.ts := ⟨List.mem_of_getElem? (i := 3) rfl, mt4 (List.mem_of_getElem? (i := 4) rfl)⟩
theorem gs_K_94 : ("NumberFunctions$Word", "SQRT", "LNumberFunctions$Word;", (.ref 13 : Value)) ∈ VV.zs ∧ Cond.fieldLink "NumberFunctions$Machine" 94 "NumberFunctions$Word" "SQRT" "LNumberFunctions$Word;" ∈ VV.ts := ⟨List.mem_of_getElem? (i := 13) rfl, mt4 (List.mem_of_getElem? (i := 14) rfl)⟩
theorem gs_K_100 : ("NumberFunctions$1", "$SwitchMap$NumberFunctions$Word", "[I", (.ref 88 : Value)) ∈ VV.zs ∧ Cond.fieldLink "NumberFunctions$Machine" 100 "NumberFunctions$1" "$SwitchMap$NumberFunctions$Word" "[I" ∈ VV.ts := ⟨List.mem_of_getElem? (i := 40) rfl, mt4 (List.mem_of_getElem? (i := 19) rfl)⟩
theorem gs_K_124 : ("NumberFunctions$Word", "DIV", "LNumberFunctions$Word;", (.ref 17 : Value)) ∈ VV.zs ∧ Cond.fieldLink "NumberFunctions$Machine" 124 "NumberFunctions$Word" "DIV" "LNumberFunctions$Word;" ∈ VV.ts := ⟨List.mem_of_getElem? (i := 17) rfl, mt4 (List.mem_of_getElem? (i := 46) rfl)⟩
theorem gs_K_142 : ("NumberFunctions$Word", "BITSHIFT", "LNumberFunctions$Word;", (.ref 20 : Value)) ∈ VV.zs ∧ Cond.fieldLink "NumberFunctions$Machine" 142 "NumberFunctions$Word" "BITSHIFT" "LNumberFunctions$Word;" ∈ VV.ts := ⟨List.mem_of_getElem? (i := 20) rfl, mt4 (List.mem_of_getElem? (i := 68) rfl)⟩
theorem gs_K_151 : ("NumberFunctions$Word", "IDIV", "LNumberFunctions$Word;", (.ref 18 : Value)) ∈ VV.zs ∧ Cond.fieldLink "NumberFunctions$Machine" 151 "NumberFunctions$Word" "IDIV" "LNumberFunctions$Word;" ∈ VV.ts := ⟨List.mem_of_getElem? (i := 18) rfl, mt4 (List.mem_of_getElem? (i := 78) rfl)⟩
theorem gs_K_156 : ("NumberFunctions$Word", "EQ", "LNumberFunctions$Word;", (.ref 21 : Value)) ∈ VV.zs ∧ Cond.fieldLink "NumberFunctions$Machine" 156 "NumberFunctions$Word" "EQ" "LNumberFunctions$Word;" ∈ VV.ts := ⟨List.mem_of_getElem? (i := 21) rfl, mt4 (List.mem_of_getElem? (i := 84) rfl)⟩
theorem gs_K_159 : ("NumberFunctions$Word", "NE", "LNumberFunctions$Word;", (.ref 22 : Value)) ∈ VV.zs ∧ Cond.fieldLink "NumberFunctions$Machine" 159 "NumberFunctions$Word" "NE" "LNumberFunctions$Word;" ∈ VV.ts := ⟨List.mem_of_getElem? (i := 22) rfl, mt4 (List.mem_of_getElem? (i := 86) rfl)⟩
theorem gs_K_48 : ("NumberFunctions$Word", "NOT", "LNumberFunctions$Word;", (.ref 30 : Value)) ∈ VV.zs ∧ Cond.fieldLink "NumberFunctions$Machine" 48 "NumberFunctions$Word" "NOT" "LNumberFunctions$Word;" ∈ VV.ts := ⟨List.mem_of_getElem? (i := 30) rfl, mt4 (List.mem_of_getElem? (i := 91) rfl)⟩
theorem gs_K_62 : ("NumberFunctions$Word", "ROLL", "LNumberFunctions$Word;", (.ref 36 : Value)) ∈ VV.zs ∧ Cond.fieldLink "NumberFunctions$Machine" 62 "NumberFunctions$Word" "ROLL" "LNumberFunctions$Word;" ∈ VV.ts := ⟨List.mem_of_getElem? (i := 36) rfl, mt4 (List.mem_of_getElem? (i := 112) rfl)⟩
theorem gs_K_174 : ("NumberFunctions$Word", "INDEX", "LNumberFunctions$Word;", (.ref 35 : Value)) ∈ VV.zs ∧ Cond.fieldLink "NumberFunctions$Machine" 174 "NumberFunctions$Word" "INDEX" "LNumberFunctions$Word;" ∈ VV.ts := ⟨List.mem_of_getElem? (i := 35) rfl, mt4 (List.mem_of_getElem? (i := 129) rfl)⟩
abbrev sl_N_70 := (List.mem_of_getElem? (l := VV.sr) (i := 0) rfl)
abbrev sl_N_85 := (List.mem_of_getElem? (l := VV.sr) (i := 1) rfl)
abbrev sl_N_92 := (List.mem_of_getElem? (l := VV.sr) (i := 2) rfl)
abbrev sl_N_102 := (List.mem_of_getElem? (l := VV.sr) (i := 3) rfl)
abbrev sl_N_104 := (List.mem_of_getElem? (l := VV.sr) (i := 4) rfl)
abbrev sl_N_106 := (List.mem_of_getElem? (l := VV.sr) (i := 5) rfl)
abbrev sl_N_116 := (List.mem_of_getElem? (l := VV.sr) (i := 6) rfl)
abbrev sl_N_120 := (List.mem_of_getElem? (l := VV.sr) (i := 7) rfl)
abbrev sl_N_139 := (List.mem_of_getElem? (l := VV.sr) (i := 8) rfl)
abbrev sl_M_186 := (List.mem_of_getElem? (l := VV.sr) (i := 9) rfl)
abbrev sl_M_192 := (List.mem_of_getElem? (l := VV.sr) (i := 10) rfl)
abbrev sl_M_231 := (List.mem_of_getElem? (l := VV.sr) (i := 11) rfl)
abbrev sl_M_233 := (List.mem_of_getElem? (l := VV.sr) (i := 12) rfl)
abbrev sl_M_235 := (List.mem_of_getElem? (l := VV.sr) (i := 13) rfl)
abbrev sl_M_237 := (List.mem_of_getElem? (l := VV.sr) (i := 14) rfl)
abbrev sl_M_239 := (List.mem_of_getElem? (l := VV.sr) (i := 15) rfl)
abbrev sl_M_241 := (List.mem_of_getElem? (l := VV.sr) (i := 16) rfl)
abbrev sl_M_243 := (List.mem_of_getElem? (l := VV.sr) (i := 17) rfl)
abbrev sl_M_245 := (List.mem_of_getElem? (l := VV.sr) (i := 18) rfl)
abbrev sl_M_247 := (List.mem_of_getElem? (l := VV.sr) (i := 19) rfl)
abbrev sl_M_249 := (List.mem_of_getElem? (l := VV.sr) (i := 20) rfl)
abbrev sl_M_251 := (List.mem_of_getElem? (l := VV.sr) (i := 21) rfl)
abbrev sl_M_253 := (List.mem_of_getElem? (l := VV.sr) (i := 22) rfl)
abbrev sl_M_255 := (List.mem_of_getElem? (l := VV.sr) (i := 23) rfl)
abbrev sl_M_257 := (List.mem_of_getElem? (l := VV.sr) (i := 24) rfl)
abbrev sl_M_259 := (List.mem_of_getElem? (l := VV.sr) (i := 25) rfl)
abbrev sl_M_261 := (List.mem_of_getElem? (l := VV.sr) (i := 26) rfl)
abbrev sl_M_263 := (List.mem_of_getElem? (l := VV.sr) (i := 27) rfl)
abbrev sl_M_265 := (List.mem_of_getElem? (l := VV.sr) (i := 28) rfl)
abbrev sl_M_267 := (List.mem_of_getElem? (l := VV.sr) (i := 29) rfl)
abbrev sl_M_269 := (List.mem_of_getElem? (l := VV.sr) (i := 30) rfl)
abbrev sl_M_271 := (List.mem_of_getElem? (l := VV.sr) (i := 31) rfl)
abbrev sl_M_273 := (List.mem_of_getElem? (l := VV.sr) (i := 32) rfl)
abbrev sl_M_275 := (List.mem_of_getElem? (l := VV.sr) (i := 33) rfl)
abbrev sl_M_277 := (List.mem_of_getElem? (l := VV.sr) (i := 34) rfl)
abbrev sl_M_279 := (List.mem_of_getElem? (l := VV.sr) (i := 35) rfl)
abbrev sl_M_281 := (List.mem_of_getElem? (l := VV.sr) (i := 36) rfl)
abbrev sl_M_283 := (List.mem_of_getElem? (l := VV.sr) (i := 37) rfl)
abbrev sl_M_285 := (List.mem_of_getElem? (l := VV.sr) (i := 38) rfl)
abbrev sl_M_287 := (List.mem_of_getElem? (l := VV.sr) (i := 39) rfl)
abbrev sl_M_289 := (List.mem_of_getElem? (l := VV.sr) (i := 40) rfl)
abbrev sl_M_291 := (List.mem_of_getElem? (l := VV.sr) (i := 41) rfl)
abbrev sl_M_293 := (List.mem_of_getElem? (l := VV.sr) (i := 42) rfl)
abbrev sl_M_295 := (List.mem_of_getElem? (l := VV.sr) (i := 43) rfl)
abbrev sl_M_297 := (List.mem_of_getElem? (l := VV.sr) (i := 44) rfl)
abbrev sl_M_371 := (List.mem_of_getElem? (l := VV.sr) (i := 45) rfl)
abbrev sl_M_369 := (List.mem_of_getElem? (l := VV.sr) (i := 46) rfl)
abbrev sl_O_171 := (List.mem_of_getElem? (l := VV.sr) (i := 47) rfl)
abbrev sl_O_285 := (List.mem_of_getElem? (l := VV.sr) (i := 48) rfl)
abbrev sl_O_288 := (List.mem_of_getElem? (l := VV.sr) (i := 49) rfl)
abbrev sl_O_180 := (List.mem_of_getElem? (l := VV.sr) (i := 50) rfl)
abbrev sl_O_177 := (List.mem_of_getElem? (l := VV.sr) (i := 51) rfl)
abbrev sl_O_183 := (List.mem_of_getElem? (l := VV.sr) (i := 52) rfl)
abbrev sl_O_213 := (List.mem_of_getElem? (l := VV.sr) (i := 53) rfl)
abbrev sl_O_225 := (List.mem_of_getElem? (l := VV.sr) (i := 54) rfl)
abbrev sl_O_234 := (List.mem_of_getElem? (l := VV.sr) (i := 55) rfl)
abbrev sl_O_228 := (List.mem_of_getElem? (l := VV.sr) (i := 56) rfl)
abbrev sl_O_237 := (List.mem_of_getElem? (l := VV.sr) (i := 57) rfl)
abbrev sl_O_240 := (List.mem_of_getElem? (l := VV.sr) (i := 58) rfl)
abbrev sl_O_264 := (List.mem_of_getElem? (l := VV.sr) (i := 59) rfl)
abbrev sl_O_282 := (List.mem_of_getElem? (l := VV.sr) (i := 60) rfl)
abbrev sl_O_279 := (List.mem_of_getElem? (l := VV.sr) (i := 61) rfl)
abbrev sl_O_186 := (List.mem_of_getElem? (l := VV.sr) (i := 62) rfl)
abbrev sl_O_189 := (List.mem_of_getElem? (l := VV.sr) (i := 63) rfl)
abbrev sl_O_192 := (List.mem_of_getElem? (l := VV.sr) (i := 64) rfl)
abbrev sl_O_195 := (List.mem_of_getElem? (l := VV.sr) (i := 65) rfl)
abbrev sl_O_198 := (List.mem_of_getElem? (l := VV.sr) (i := 66) rfl)
abbrev sl_O_201 := (List.mem_of_getElem? (l := VV.sr) (i := 67) rfl)
abbrev sl_O_204 := (List.mem_of_getElem? (l := VV.sr) (i := 68) rfl)
abbrev sl_O_207 := (List.mem_of_getElem? (l := VV.sr) (i := 69) rfl)
abbrev sl_O_210 := (List.mem_of_getElem? (l := VV.sr) (i := 70) rfl)
abbrev sl_O_216 := (List.mem_of_getElem? (l := VV.sr) (i := 71) rfl)
abbrev sl_O_219 := (List.mem_of_getElem? (l := VV.sr) (i := 72) rfl)
abbrev sl_O_222 := (List.mem_of_getElem? (l := VV.sr) (i := 73) rfl)
abbrev sl_O_231 := (List.mem_of_getElem? (l := VV.sr) (i := 74) rfl)
abbrev sl_O_243 := (List.mem_of_getElem? (l := VV.sr) (i := 75) rfl)
abbrev sl_O_246 := (List.mem_of_getElem? (l := VV.sr) (i := 76) rfl)
abbrev sl_O_249 := (List.mem_of_getElem? (l := VV.sr) (i := 77) rfl)
abbrev sl_O_252 := (List.mem_of_getElem? (l := VV.sr) (i := 78) rfl)
abbrev sl_O_255 := (List.mem_of_getElem? (l := VV.sr) (i := 79) rfl)
abbrev sl_O_258 := (List.mem_of_getElem? (l := VV.sr) (i := 80) rfl)
abbrev sl_O_261 := (List.mem_of_getElem? (l := VV.sr) (i := 81) rfl)
abbrev sl_O_267 := (List.mem_of_getElem? (l := VV.sr) (i := 82) rfl)
abbrev sl_O_270 := (List.mem_of_getElem? (l := VV.sr) (i := 83) rfl)
abbrev sl_O_273 := (List.mem_of_getElem? (l := VV.sr) (i := 84) rfl)
abbrev sl_O_276 := (List.mem_of_getElem? (l := VV.sr) (i := 85) rfl)
theorem ac_JArrays_150 : ax_AC VV "java/util/Arrays" 150 := ⟨mt2 (List.mem_of_getElem? (i := 141) rfl), mt2 (List.mem_of_getElem? (i := 143) rfl), mt2 (List.mem_of_getElem? (i := 142) rfl), mt1 (List.mem_of_getElem? (i := 14) rfl)⟩
theorem ac_G_29 : ax_AC VV "NumberFunctions$Program" 29 := ⟨mt3 (List.mem_of_getElem? (i := 133) rfl), mt2 (List.mem_of_getElem? (i := 143) rfl), mt2 (List.mem_of_getElem? (i := 142) rfl), mt1 (List.mem_of_getElem? (i := 14) rfl)⟩
theorem ac_N_123 : ax_AC VV "NumberFunctions" 123 := ⟨mt3 (List.mem_of_getElem? (i := 189) rfl), mt2 (List.mem_of_getElem? (i := 143) rfl), mt2 (List.mem_of_getElem? (i := 142) rfl), mt1 (List.mem_of_getElem? (i := 14) rfl)⟩
theorem ac_K_180 : ax_AC VV "NumberFunctions$Machine" 180 := ⟨mt4 (List.mem_of_getElem? (i := 135) rfl), mt2 (List.mem_of_getElem? (i := 143) rfl), mt2 (List.mem_of_getElem? (i := 142) rfl), mt1 (List.mem_of_getElem? (i := 14) rfl)⟩
theorem cn_JArrays_316 : ax_CN VV "java/util/Arrays" 316 "[I" := ⟨mt2 (List.mem_of_getElem? (i := 131) rfl), mt2 (List.mem_of_getElem? (i := 132) rfl), mt2 (List.mem_of_getElem? (i := 133) rfl), mt2 (List.mem_of_getElem? (i := 134) rfl), mt2 (List.mem_of_getElem? (i := 135) rfl), List.mem_of_getElem? (i := 2) rfl⟩
theorem cn_JArrays_310 : ax_CN VV "java/util/Arrays" 310 "[B" := ⟨mt2 (List.mem_of_getElem? (i := 156) rfl), mt2 (List.mem_of_getElem? (i := 157) rfl), mt2 (List.mem_of_getElem? (i := 133) rfl), mt2 (List.mem_of_getElem? (i := 134) rfl), mt2 (List.mem_of_getElem? (i := 158) rfl), List.mem_of_getElem? (i := 3) rfl⟩
theorem ck_L_8 : Cond.classLink "NumberFunctionsLaw" 8 "NumberFunctions" ∈ VV.ts := mt1 (List.mem_of_getElem? (i := 29) rfl)
theorem ck_N_17 : Cond.classLink "NumberFunctions" 17 "NumberFunctions$Telling" ∈ VV.ts := mt1 (List.mem_of_getElem? (i := 37) rfl)
theorem ck_N_24 : Cond.classLink "NumberFunctions" 24 "NumberFunctions$Function" ∈ VV.ts := mt1 (List.mem_of_getElem? (i := 54) rfl)
theorem ck_N_43 : Cond.classLink "NumberFunctions" 43 "NumberFunctions$Fault" ∈ VV.ts := mt1 (List.mem_of_getElem? (i := 56) rfl)
theorem ck_N_50 : Cond.classLink "NumberFunctions" 50 "NumberFunctions$Reader" ∈ VV.ts := mt1 (List.mem_of_getElem? (i := 71) rfl)
theorem ck_R_9 : Cond.classLink "NumberFunctions$Reader" 9 "NumberFunctions$Word" ∈ VV.ts := mt1 (List.mem_of_getElem? (i := 77) rfl)
theorem ck_N_57 : Cond.classLink "NumberFunctions" 57 "NumberFunctions$Machine" ∈ VV.ts := mt1 (List.mem_of_getElem? (i := 124) rfl)
theorem ck_L_13 : Cond.classLink "NumberFunctionsLaw" 13 "java/lang/IllegalArgumentException" ∈ VV.ts := mt1 (List.mem_of_getElem? (i := 204) rfl)
theorem ck_N_68 : Cond.classLink "NumberFunctions" 68 "java/lang/IllegalArgumentException" ∈ VV.ts := mt1 (List.mem_of_getElem? (i := 209) rfl)
theorem ck_L_18 : Cond.classLink "NumberFunctionsLaw" 18 "java/lang/IllegalStateException" ∈ VV.ts := mt2 (List.mem_of_getElem? (i := 42) rfl)
theorem ck_N_90 : Cond.classLink "NumberFunctions" 90 "java/lang/IllegalStateException" ∈ VV.ts := mt2 (List.mem_of_getElem? (i := 53) rfl)
theorem ck_JArrays_317 : Cond.classLink "java/util/Arrays" 317 "[I" ∈ VV.ts := mt2 (List.mem_of_getElem? (i := 137) rfl)
theorem ck_N_194 : Cond.classLink "NumberFunctions" 194 "NumberFunctions$Samples" ∈ VV.ts := mt2 (List.mem_of_getElem? (i := 151) rfl)
theorem ck_JArrays_311 : Cond.classLink "java/util/Arrays" 311 "[B" ∈ VV.ts := mt2 (List.mem_of_getElem? (i := 160) rfl)
theorem ck_N_160 : Cond.classLink "NumberFunctions" 160 "NumberFunctions$Powers" ∈ VV.ts := mt2 (List.mem_of_getElem? (i := 213) rfl)
theorem ck_N_165 : Cond.classLink "NumberFunctions" 165 "NumberFunctions$Stitched" ∈ VV.ts := mt2 (List.mem_of_getElem? (i := 223) rfl)
theorem ck_Z_4 : Cond.classLink "NumberFunctions$Stitched" 4 "NumberFunctions$Function" ∈ VV.ts := mt2 (List.mem_of_getElem? (i := 229) rfl)
theorem ck_N_174 : Cond.classLink "NumberFunctions" 174 "NumberFunctions$Program" ∈ VV.ts := mt3 (List.mem_of_getElem? (i := 126) rfl)
theorem ck_G_22 : Cond.classLink "NumberFunctions$Program" 22 "NumberFunctions$Word" ∈ VV.ts := mt3 (List.mem_of_getElem? (i := 132) rfl)
theorem ck_L_31 : Cond.classLink "NumberFunctionsLaw" 31 "java/lang/IndexOutOfBoundsException" ∈ VV.ts := mt3 (List.mem_of_getElem? (i := 168) rfl)
theorem ck_N_118 : Cond.classLink "NumberFunctions" 118 "java/lang/IndexOutOfBoundsException" ∈ VV.ts := mt3 (List.mem_of_getElem? (i := 173) rfl)
theorem ck_L_37 : Cond.classLink "NumberFunctionsLaw" 37 "NumberFunctionsModel" ∈ VV.ts := mt4 (List.mem_of_getElem? (i := 199) rfl)
theorem cu_N_129_S : ax_CU VV "NumberFunctions" 129 "NumberFunctions$Function" "NumberFunctions$Samples" ⟨"NumberFunctions$Function", "evaluate", "([I[ILNumberFunctions$Fault;)V"⟩ S_evaluate_y S_evaluate_c 9 none 3 := ⟨mt3 (List.mem_of_getElem? (i := 190) rfl), mt3 (List.mem_of_getElem? (i := 192) rfl), mt4 (List.mem_of_getElem? (i := 149) rfl), mt4 (List.mem_of_getElem? (i := 150) rfl), mt1 (List.mem_of_getElem? (i := 16) rfl), mt4 (List.mem_of_getElem? (i := 151) rfl), List.mem_of_getElem? (i := 6) rfl, by decide +kernel⟩
theorem cu_N_129_P : ax_CU VV "NumberFunctions" 129 "NumberFunctions$Function" "NumberFunctions$Powers" ⟨"NumberFunctions$Function", "evaluate", "([I[ILNumberFunctions$Fault;)V"⟩ P_evaluate_y P_evaluate_c 11 none 3 := ⟨mt3 (List.mem_of_getElem? (i := 190) rfl), mt3 (List.mem_of_getElem? (i := 192) rfl), mt3 (List.mem_of_getElem? (i := 193) rfl), mt3 (List.mem_of_getElem? (i := 194) rfl), mt1 (List.mem_of_getElem? (i := 17) rfl), mt3 (List.mem_of_getElem? (i := 195) rfl), List.mem_of_getElem? (i := 6) rfl, by decide +kernel⟩
theorem cu_N_129_Z : ax_CU VV "NumberFunctions" 129 "NumberFunctions$Function" "NumberFunctions$Stitched" ⟨"NumberFunctions$Function", "evaluate", "([I[ILNumberFunctions$Fault;)V"⟩ Z_evaluate_y Z_evaluate_c 12 none 3 := ⟨mt3 (List.mem_of_getElem? (i := 190) rfl), mt3 (List.mem_of_getElem? (i := 192) rfl), mt4 (List.mem_of_getElem? (i := 183) rfl), mt4 (List.mem_of_getElem? (i := 184) rfl), mt1 (List.mem_of_getElem? (i := 18) rfl), mt4 (List.mem_of_getElem? (i := 185) rfl), List.mem_of_getElem? (i := 6) rfl, by decide +kernel⟩
theorem cu_N_129_G : ax_CU VV "NumberFunctions" 129 "NumberFunctions$Function" "NumberFunctions$Program" ⟨"NumberFunctions$Function", "evaluate", "([I[ILNumberFunctions$Fault;)V"⟩ G_evaluate_y G_evaluate_c 9 none 3 := ⟨mt3 (List.mem_of_getElem? (i := 190) rfl), mt3 (List.mem_of_getElem? (i := 192) rfl), mt3 (List.mem_of_getElem? (i := 223) rfl), mt3 (List.mem_of_getElem? (i := 224) rfl), mt1 (List.mem_of_getElem? (i := 25) rfl), mt3 (List.mem_of_getElem? (i := 225) rfl), List.mem_of_getElem? (i := 6) rfl, by decide +kernel⟩
theorem cu_P_9_P : ax_CU VV "NumberFunctions$Powers" 9 "NumberFunctions$Function" "NumberFunctions$Powers" ⟨"NumberFunctions$Powers", "withinPair", "(II)I"⟩ F_withinPair_y F_withinPair_c 3 (some .int) 2 := ⟨mt3 (List.mem_of_getElem? (i := 196) rfl), mt3 (List.mem_of_getElem? (i := 197) rfl), mt3 (List.mem_of_getElem? (i := 199) rfl), mt3 (List.mem_of_getElem? (i := 200) rfl), mt1 (List.mem_of_getElem? (i := 15) rfl), mt3 (List.mem_of_getElem? (i := 201) rfl), List.mem_of_getElem? (i := 7) rfl, by decide +kernel⟩
theorem cu_G_62_G : ax_CU VV "NumberFunctions$Program" 62 "NumberFunctions$Function" "NumberFunctions$Program" ⟨"NumberFunctions$Program", "withinPair", "(II)I"⟩ F_withinPair_y F_withinPair_c 3 (some .int) 2 := ⟨mt3 (List.mem_of_getElem? (i := 226) rfl), mt3 (List.mem_of_getElem? (i := 227) rfl), mt3 (List.mem_of_getElem? (i := 228) rfl), mt3 (List.mem_of_getElem? (i := 200) rfl), mt1 (List.mem_of_getElem? (i := 15) rfl), mt3 (List.mem_of_getElem? (i := 201) rfl), List.mem_of_getElem? (i := 7) rfl, by decide +kernel⟩
theorem cu_K_105_O : ax_CU VV "NumberFunctions$Machine" 105 "java/lang/Enum" "NumberFunctions$Word" ⟨"NumberFunctions$Word", "ordinal", "()I"⟩ JEnum_ordinal_y JEnum_ordinal_c 1 (some .int) 0 := ⟨mt4 (List.mem_of_getElem? (i := 21) rfl), mt4 (List.mem_of_getElem? (i := 22) rfl), mt4 (List.mem_of_getElem? (i := 24) rfl), mt4 (List.mem_of_getElem? (i := 25) rfl), mt1 (List.mem_of_getElem? (i := 19) rfl), mt4 (List.mem_of_getElem? (i := 26) rfl), List.mem_of_getElem? (i := 8) rfl, by decide +kernel⟩
theorem cu_S_55_S : ax_CU VV "NumberFunctions$Samples" 55 "NumberFunctions$Function" "NumberFunctions$Samples" ⟨"NumberFunctions$Samples", "withinPair", "(II)I"⟩ F_withinPair_y F_withinPair_c 3 (some .int) 2 := ⟨mt4 (List.mem_of_getElem? (i := 156) rfl), mt4 (List.mem_of_getElem? (i := 157) rfl), mt4 (List.mem_of_getElem? (i := 158) rfl), mt3 (List.mem_of_getElem? (i := 200) rfl), mt1 (List.mem_of_getElem? (i := 15) rfl), mt3 (List.mem_of_getElem? (i := 201) rfl), List.mem_of_getElem? (i := 7) rfl, by decide +kernel⟩
theorem cu_Z_15_Z : ax_CU VV "NumberFunctions$Stitched" 15 "NumberFunctions$Function" "NumberFunctions$Stitched" ⟨"NumberFunctions$Stitched", "withinPair", "(II)I"⟩ F_withinPair_y F_withinPair_c 3 (some .int) 2 := ⟨mt4 (List.mem_of_getElem? (i := 186) rfl), mt4 (List.mem_of_getElem? (i := 187) rfl), mt4 (List.mem_of_getElem? (i := 188) rfl), mt3 (List.mem_of_getElem? (i := 200) rfl), mt1 (List.mem_of_getElem? (i := 15) rfl), mt3 (List.mem_of_getElem? (i := 201) rfl), List.mem_of_getElem? (i := 7) rfl, by decide +kernel⟩
theorem cu_Z_29_S : ax_CU VV "NumberFunctions$Stitched" 29 "NumberFunctions$Function" "NumberFunctions$Samples" ⟨"NumberFunctions$Function", "evaluate", "([I[ILNumberFunctions$Fault;)V"⟩ S_evaluate_y S_evaluate_c 9 none 3 := ⟨mt4 (List.mem_of_getElem? (i := 190) rfl), mt3 (List.mem_of_getElem? (i := 192) rfl), mt4 (List.mem_of_getElem? (i := 149) rfl), mt4 (List.mem_of_getElem? (i := 150) rfl), mt1 (List.mem_of_getElem? (i := 16) rfl), mt4 (List.mem_of_getElem? (i := 151) rfl), List.mem_of_getElem? (i := 6) rfl, by decide +kernel⟩
theorem cu_Z_29_P : ax_CU VV "NumberFunctions$Stitched" 29 "NumberFunctions$Function" "NumberFunctions$Powers" ⟨"NumberFunctions$Function", "evaluate", "([I[ILNumberFunctions$Fault;)V"⟩ P_evaluate_y P_evaluate_c 11 none 3 := ⟨mt4 (List.mem_of_getElem? (i := 190) rfl), mt3 (List.mem_of_getElem? (i := 192) rfl), mt3 (List.mem_of_getElem? (i := 193) rfl), mt3 (List.mem_of_getElem? (i := 194) rfl), mt1 (List.mem_of_getElem? (i := 17) rfl), mt3 (List.mem_of_getElem? (i := 195) rfl), List.mem_of_getElem? (i := 6) rfl, by decide +kernel⟩
theorem cu_Z_29_Z : ax_CU VV "NumberFunctions$Stitched" 29 "NumberFunctions$Function" "NumberFunctions$Stitched" ⟨"NumberFunctions$Function", "evaluate", "([I[ILNumberFunctions$Fault;)V"⟩ Z_evaluate_y Z_evaluate_c 12 none 3 := ⟨mt4 (List.mem_of_getElem? (i := 190) rfl), mt3 (List.mem_of_getElem? (i := 192) rfl), mt4 (List.mem_of_getElem? (i := 183) rfl), mt4 (List.mem_of_getElem? (i := 184) rfl), mt1 (List.mem_of_getElem? (i := 18) rfl), mt4 (List.mem_of_getElem? (i := 185) rfl), List.mem_of_getElem? (i := 6) rfl, by decide +kernel⟩
theorem cu_Z_29_G : ax_CU VV "NumberFunctions$Stitched" 29 "NumberFunctions$Function" "NumberFunctions$Program" ⟨"NumberFunctions$Function", "evaluate", "([I[ILNumberFunctions$Fault;)V"⟩ G_evaluate_y G_evaluate_c 9 none 3 := ⟨mt4 (List.mem_of_getElem? (i := 190) rfl), mt3 (List.mem_of_getElem? (i := 192) rfl), mt3 (List.mem_of_getElem? (i := 223) rfl), mt3 (List.mem_of_getElem? (i := 224) rfl), mt1 (List.mem_of_getElem? (i := 25) rfl), mt3 (List.mem_of_getElem? (i := 225) rfl), List.mem_of_getElem? (i := 6) rfl, by decide +kernel⟩
