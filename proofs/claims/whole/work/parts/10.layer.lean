/-! THE LAYER: an abstract heap (a list of cells; a cell's number is its address there), values that name cells by these numbers,
'AW': the machine, at a place of a method's code, over a heap that holds the abstract one, comes to Q; straight stretches of code by computation ('AW.seg') -/
def ax_v (ph : Nat → Nat) : Value → Value
  | .ref k => .ref (ph k)
  | v => v
def ax_o (ph : Nat → Nat) : Option Nat → Option Nat
  | none => none
  | some k => some (ph k)
def ax_a (ph : Nat → Nat) : vp_A → vp_A
  | (n, .inr (.inr (.inr (.inr f)))) => (n, .inr (.inr (.inr (.inr (fun j => ax_o ph (f j))))))
  | a => a
def ax_e (ph ca : Nat → Nat) : va_E → va_E
  | .inl (t, a) => .inl (ca t, ax_a ph a)
  | .inr (ci, fs) => .inr (ci, fs.map (ax_v ph))
/-- (classes' numbers and slots; addresses; array classes' numbers; where new cells begin; the heap at the law's start); the first ax_nC cells are constants, that nobody writes -/
abbrev ax_G : Type := va_G × (Nat → Nat) × (Nat → Nat) × Nat × Heap
/-- the classes; the array types; the static fields (class, name, descriptor, value); the tables' words; the static arrays (cell, type, length, contents); castable pairs; declared methods; classes with arrays over them; text constants (class, entry, text, cell) -/
abbrev ax_V : Type := List vw_C × List FieldType × List (String × String × String × Value) × List Cond × List (Nat × FieldType × Nat × (Nat → Value)) × List (String × String) × List MethodName × List String × List (String × Nat × String × Nat)
abbrev ax_V.cl (V : ax_V) : List vw_C := V.1
abbrev ax_V.tl (V : ax_V) : List FieldType := V.2.1
abbrev ax_V.zs (V : ax_V) : List (String × String × String × Value) := V.2.2.1
abbrev ax_V.ts (V : ax_V) : List Cond := V.2.2.2.1
abbrev ax_V.ta (V : ax_V) : List (Nat × FieldType × Nat × (Nat → Value)) := V.2.2.2.2.1
abbrev ax_V.ct (V : ax_V) : List (String × String) := V.2.2.2.2.2.1
abbrev ax_V.dc (V : ax_V) : List MethodName := V.2.2.2.2.2.2.1
abbrev ax_V.ao (V : ax_V) : List String := V.2.2.2.2.2.2.2.1
abbrev ax_V.sr (V : ax_V) : List (String × Nat × String × Nat) := V.2.2.2.2.2.2.2.2
/-- a cell of which the abstract heap says nothing (a static array's): a float array -/
def ax_nf : va_E → Bool
  | .inl (_, _, .inr (.inr (.inl _))) => false
  | _ => true
def ax_dm : va_E := .inl (0, 0, .inr (.inr (.inl (fun _ => 0))))
abbrev ax_G.ph (G : ax_G) : Nat → Nat := G.2.1
abbrev ax_G.ca (G : ax_G) : Nat → Nat := G.2.2.1
abbrev ax_G.bs (G : ax_G) : Nat := G.2.2.2.1
abbrev ax_G.H0 (G : ax_G) : Heap := G.2.2.2.2
/-- a cell's contents; of a constant object (before ax_nC) only that its fields can be read -/
def ax_at (k : Nat) (D : va_G) (cl : List vw_C) (q : Nat × va_E) (H : Heap) : Prop := match q.2 with
  | .inl a => H[q.1]? = some (vp_cell a.1 a.2)
  | .inr o => ∃ r : vw_C, cl[o.1]? = some r ∧ ∃ cell : Cell, H[q.1]? = some cell ∧ cell.cls = D.1 o.1 ∧ (cell.vm ≠ .unknown ∧ cell.vm.isStatics = false ∧ (ax_nC ≤ k → cell.vm = .none)) ∧ ∀ j, j < r.2.2 → cell.slots[D.2 o.1 j]? = some (vp_V o.2 j)
theorem ax_at.of {k : Nat} {D : va_G} {cl : List vw_C} {q : Nat × va_E} {H : Heap} (h : va_at D cl q H) : ax_at k D cl q H := by
  obtain ⟨a, e⟩ := q
  cases e with
  | inl x => exact h
  | inr o =>
    obtain ⟨r, h1, cell, h2, h3, h4, h5⟩ := h
    exact ⟨r, h1, cell, h2, h3, ⟨by rw [h4]; exact fun q => (by cases q), by rw [h4]; rfl, fun _ => h4⟩, h5⟩
theorem ax_at.kept {k : Nat} {D : va_G} {cl : List vw_C} {q : Nat × va_E} {H H1 : Heap} (h : ax_at k D cl q H) (hq : H1[q.1]? = H[q.1]?) : ax_at k D cl q H1 := by
  obtain ⟨a, e⟩ := q
  cases e with
  | inl x => exact hq.trans h
  | inr o =>
    obtain ⟨r, h1, cell, h2, h3⟩ := h
    exact ⟨r, h1, cell, hq.trans h2, h3⟩
theorem ax_at.lt {k : Nat} {D : va_G} {cl : List vw_C} {q : Nat × va_E} {H : Heap} (h : ax_at k D cl q H) : q.1 < H.size := by
  obtain ⟨a, e⟩ := q
  cases e with
  | inl x => exact (Array.getElem?_eq_some_iff.mp h).1
  | inr o =>
    obtain ⟨r, h1, cell, h2, -⟩ := h
    exact (Array.getElem?_eq_some_iff.mp h2).1
def ax_H (V : ax_V) (G : ax_G) (h : List va_E) (H : Heap) : Prop :=
  (∀ (k : Nat) (c : va_E), h[k]? = some c → ax_nf c = true → ax_at k G.1 V.cl (G.ph k, ax_e G.ph G.ca c) H) ∧ ax_nC ≤ h.length ∧ H.size = G.bs + (h.length - ax_nC) ∧ ∀ q : Nat, q < G.bs → H[q]? = G.H0[q]?
/-- the words' addresses differ; new cells lie one behind the other; constants lie before them -/
def ax_I (G : ax_G) : Prop := (∀ i j : Nat, i < 39 → j < 39 → G.ph i = G.ph j → i = j) ∧ (∀ k : Nat, ax_nC ≤ k → G.ph k = G.bs + (k - ax_nC)) ∧ ∀ k : Nat, k < ax_nC → G.ph k < G.bs
theorem ax_I.ne {G : ax_G} (h : ax_I G) {j k : Nat} (hk : ax_nC ≤ k) (e : G.ph j = G.ph k) : j = k := by
  rcases Nat.lt_or_ge j ax_nC with q | q
  · have h1 := h.2.2 j q
    rw [e, h.2.1 k hk] at h1
    omega
  · rw [h.2.1 j q, h.2.1 k hk] at e
    omega
/-- an instance field and its slot -/
def ax_Fd (U : State) (q : String × String × String × Bool) (i : Nat) : Prop := ∃ (cf : ClassId) (kf : Class) (fi : Nat) (fd : Field), U.fieldFound? q.1 q.2.1 q.2.2.1 = some (cf, kf, fi, fd) ∧ fd.slot = i ∧ fd.isStatic = false
theorem ax_Fd.moved {u U : State} {q : String × String × String × Bool} {i : Nat} (hvm : u.vm.Alike U.vm) (h : ax_Fd u q i) : ax_Fd U q i := by
  obtain ⟨cf, kf, fi, fd, hi, hs⟩ := h
  obtain ⟨kf', hi', -⟩ := State.fieldFound?_setVm (s := u) hvm hi
  exact ⟨cf, kf', fi, fd, by simpa only [State.fieldFound?, State.vm_setVm] using hi', hs⟩
/-- an object of the second class of refusals is none of the first -/
def ax_nc (U : State) : Prop := ∃ c1 c2 : ClassId, U.vm.findClass "java/lang/IllegalStateException" = some c1 ∧ U.vm.findClass "java/lang/IllegalArgumentException" = some c2 ∧ U.vm.assignable c1 c2 = false
theorem ax_nc.moved {u U : State} (hvm : u.vm.Alike U.vm) (h : ax_nc u) : ax_nc U := by
  obtain ⟨c1, c2, h1, h2, h3⟩ := h
  exact ⟨c1, c2, by rw [hvm.findClass]; exact h1, by rw [hvm.findClass]; exact h2, by rw [hvm.assignable]; exact h3⟩
/-- the JDK's formatter: nothing, or some reference -/
def ax_sf (G : ax_G) (U : State) : Prop := va_Z "jdk/internal/util/Preconditions" "SIOOBE_FORMATTER" "Ljava/util/function/BiFunction;" .null (fun q => G.bs ≤ q) U G.H0 ∨ ∃ k : Nat, va_Z "jdk/internal/util/Preconditions" "SIOOBE_FORMATTER" "Ljava/util/function/BiFunction;" (.ref (G.ph k)) (fun q => G.bs ≤ q) U G.H0
theorem ax_sf.moved {G : ax_G} {u U : State} (hvm : u.vm.Alike U.vm) (h : ax_sf G u) : ax_sf G U := h.elim (fun q => Or.inl (q.moved hvm)) (fun ⟨k, q⟩ => Or.inr ⟨k, q.moved hvm⟩)
/-- a class's number -/
def ax_CA (U : State) (C : String) (cC : ClassId) : Prop := U.vm.findClass C = some cC ∧ ∃ kC : Class, U.vm.classes[cC]? = some kC
theorem ax_CA.moved {u U : State} {C : String} {cC : ClassId} (hvm : u.vm.Alike U.vm) (h : ax_CA u C cC) : ax_CA U C cC := by
  obtain ⟨h1, k, h2⟩ := h
  obtain ⟨k', hk', -⟩ := hvm.2.2 _ _ h2
  exact ⟨by rw [hvm.findClass]; exact h1, k', hk'⟩
def ax_K (V : ax_V) (G : ax_G) (U : State) : Prop :=
  (∀ (c : Nat) (q : vw_C), V.cl[c]? = some q → (∀ k, k < q.2.2 → ax_Fd U (q.2.1 k) (G.1.2 c k)) ∧ ax_CA U q.1 (G.1.1 c)) ∧ (∀ (k : Nat) (ty : FieldType), V.tl[k]? = some ty → ArrOfT U (G.ca k) ty ∧ va_RA U (G.ca k) ty) ∧
  (∀ z ∈ V.zs, va_Z z.1 z.2.1 z.2.2.1 (ax_v G.ph z.2.2.2) (fun q => G.bs ≤ q) U G.H0) ∧ (∀ z ∈ V.ta, va_T z.2.1 (G.ph z.1) z.2.2.1 (fun j => ax_v G.ph (z.2.2.2 j)) (fun q => G.bs ≤ q) U G.H0) ∧
  (∀ z ∈ V.ct, va_Nw (.castable z.1 z.2) U) ∧ (∀ z ∈ V.dc, va_Nw (.declares z) U) ∧ (∀ z ∈ V.ao, va_AO z U) ∧ (∀ z ∈ V.sr, vk_R z.1 z.2.1 z.2.2.1 (G.ph z.2.2.2) U) ∧ ax_nc U ∧ ax_sf G U
theorem ax_K.moved {V : ax_V} {G : ax_G} {u U : State} (hW : u.WarmedH U.vm) (h : ax_K V G u) : ax_K V G U :=
  have hvm := hW.alike
  ⟨fun c q hq => ⟨fun k hk => ((h.1 c q hq).1 k hk).moved hvm, (h.1 c q hq).2.moved hvm⟩, fun k ty hk => ⟨arrOfT_moved hvm (h.2.1 k ty hk).1, (h.2.1 k ty hk).2.moved hvm⟩, fun z hz => (h.2.2.1 z hz).moved hvm, fun z hz => (h.2.2.2.1 z hz).moved hvm, fun z hz => (h.2.2.2.2.1 z hz).warmC hW, fun z hz => (h.2.2.2.2.2.1 z hz).warmD hW, fun z hz => (h.2.2.2.2.2.2.1 z hz).moved hvm, fun z hz => (h.2.2.2.2.2.2.2.1 z hz).warm hW, h.2.2.2.2.2.2.2.2.1.moved hvm, h.2.2.2.2.2.2.2.2.2.moved hvm⟩
theorem ax_K.u {V : ax_V} {G : ax_G} {U : State} (h : ax_K V G U) {c : Nat} {q : vw_C} (hq : V.cl[c]? = some q) {args : Array Value} {n : Nat} (hi : (Cond.instantiable q.1 n).before args U = true) : u_Kn U q.1 q.2.1 q.2.2 (G.1.1 c) (G.1.2 c) := by
  obtain ⟨c1, k1, f1, f2, f3, -⟩ := Cond.instantiable_spec hi
  have hc := (h.1 c q hq).2.1
  cases hc.symm.trans f1
  exact ⟨fun k hk => by
    obtain ⟨cf, kf, fi, fd, hi, hs, -⟩ := (h.1 c q hq).1 k hk
    exact ⟨cf, kf, fi, fd, hi, hs⟩, hc, k1, f2, f3⟩
theorem ax_K.K1 {V : ax_V} {G : ax_G} {U : State} (h : ax_K V G U) {t : Nat} {ty : FieldType} (ht : V.tl[t]? = some ty) : va_K G.1 [] [(G.ca t, ty)] U :=
  ⟨fun c q hq => by simp at hq, fun k q hq => by
    have hz : k < 1 := (List.getElem?_eq_some_iff.mp hq).1
    rw [show k = 0 by omega] at hq
    cases hq
    exact h.2.1 t ty ht⟩
theorem ax_P1 {V : ax_V} {G : ax_G} {h : List va_E} {H : Heap} (hH : ax_H V G h H) {k : Nat} {x : ClassId × vp_A} (hk : h[k]? = some (.inl x)) (hc : ax_nf (.inl x) = true) : va_P G.1 [] [(G.ph k, ax_e G.ph G.ca (.inl x))] H := fun j q hq => by
  have hz : j < 1 := (List.getElem?_eq_some_iff.mp hq).1
  rw [show j = 0 by omega] at hq
  cases hq
  exact hH.1 k _ hk hc
theorem ax_recv {V : ax_V} {G : ax_G} {h : List va_E} {H : Heap} {s : State} {a ci : Nat} {q : vw_C} {fs : List Value} (hK : ax_K V G s) (hH : ax_H V G h H) (ha : h[a]? = some (.inr (ci, fs))) (hc : V.cl[ci]? = some q) : ∃ cell : Cell, H[G.ph a]? = some cell ∧ cell.vm.isStatics = false ∧ s.vm.findClass q.1 = some cell.cls := by
  obtain ⟨q', h1, cell, g1, g2, g3, -⟩ := hH.1 a _ ha rfl
  exact ⟨cell, g1, g3.2.1, by rw [g2]; exact (hK.1 ci q hc).2.1⟩
theorem ax_bsle {G : ax_G} (hI : ax_I G) {a : Nat} (ha : ax_nC ≤ a) : G.bs ≤ G.ph a := by
  rw [hI.2.1 a ha]
  exact Nat.le_add_right _ _
/-- a cell is written -/
theorem ax_set {V : ax_V} {G : ax_G} {h : List va_E} {H H1 : Heap} (hI : ax_I G) (hH : ax_H V G h H) {k : Nat} {c c' : va_E} (hk : h[k]? = some c) (hna : ax_nC ≤ k) (hat : ax_nf c' = true → va_at G.1 V.cl (G.ph k, ax_e G.ph G.ca c') H1) (z : H1.size = H.size) (oq : ∀ q : Nat, q ≠ G.ph k → H1[q]? = H[q]?) : ax_H V G (h.set k c') H1 := by
  have hlt : k < h.length := (List.getElem?_eq_some_iff.mp hk).1
  refine ⟨fun j d hj hd => ?_, by rw [List.length_set]; exact hH.2.1, by rw [List.length_set, z]; exact hH.2.2.1, fun q hq => ?_⟩
  · by_cases e : j = k
    · subst e
      rw [List.getElem?_set_self hlt] at hj
      cases hj
      exact ax_at.of (hat hd)
    · rw [List.getElem?_set_ne (Ne.symm e)] at hj
      exact (hH.1 j d hj hd).kept (oq _ (fun q => e (hI.ne hna q)))
  · rw [oq q (fun e => Nat.not_lt.mpr (ax_bsle hI hna) (e ▸ hq))]
    exact hH.2.2.2 q hq
/-- a cell is made -/
theorem ax_new {V : ax_V} {G : ax_G} {h : List va_E} {H H1 : Heap} (hI : ax_I G) (hH : ax_H V G h H) {c : va_E} (hat : va_at G.1 V.cl (H.size, ax_e G.ph G.ca c) H1) (z : H1.size = H.size + 1) (oq : ∀ q : Nat, q < H.size → H1[q]? = H[q]?) : ax_H V G (h ++ [c]) H1 ∧ G.ph h.length = H.size := by
  have hn : G.ph h.length = H.size := by rw [hI.2.1 _ hH.2.1, hH.2.2.1]
  refine ⟨⟨fun j d hj hd => ?_, by rw [List.length_append]; exact Nat.le_trans hH.2.1 (Nat.le_add_right _ _), ?_, fun q hq => ?_⟩, hn⟩
  · rcases Nat.lt_or_ge j h.length with e | e
    · rw [List.getElem?_append_left e] at hj
      have ha := hH.1 j d hj hd
      exact ha.kept (oq _ ha.lt)
    · rw [List.getElem?_append_right e] at hj
      have hz : j - h.length < 1 := (List.getElem?_eq_some_iff.mp hj).1
      have e2 : j = h.length := by omega
      subst e2
      rw [Nat.sub_self] at hj
      cases hj
      rw [hn]
      exact ax_at.of hat
  · rw [List.length_append, z, hH.2.2.1]
    have := hH.2.1
    show _ = _ + (h.length + 1 - _)
    omega
  · rw [oq q (by rw [hH.2.2.1]; omega)]
    exact hH.2.2.2 q hq
def ax_lv (ph : Nat → Nat) (lv : List (Nat × Value)) : List (Nat × Value) := lv.map (fun q => (q.1, ax_v ph q.2))
theorem ax_cat (ph : Nat → Nat) (v : Value) : (ax_v ph v).category = v.category := by cases v <;> rfl
section AX
variable {p : Program} {l : Launch} {e : Env} {R : Room} {s : State} {m : MethodId} {args : Array Value} {below : List Frame} {meth : Method} {c : Code}
/-- the machine, at 'pc' with these locals and stack, over every heap that holds h, comes to Q -/
def AW (p : Program) (l : Launch) (e : Env) (R : Room) (s : State) (m : MethodId) (args : Array Value) (below : List Frame) (meth : Method) (c : Code) (V : ax_V) (G : ax_G) (nL : Nat) (h : List va_E) (cells slots : Nat) (Q : State → Prop) (pc : Nat) (lv : List (Nat × Value)) (st : List Value) : Prop :=
  ∀ (H : Heap) (locs : List Loc) (ls : Array Slot), ax_H V G h H → (∀ q ∈ locs, G.bs ≤ q.base) → lv_has ls nL (ax_lv G.ph lv) → W p l e R s m args below meth c H locs cells slots Q (F0 m pc ls (st.map (ax_v G.ph)))
/-- which field (its number in class ci's objects) the pool entry 'idx' of the class 'own' names -/
def ax_F (V : ax_V) (own : String) (fl : Nat → Nat → Option Nat) : Prop := ∀ idx ci k : Nat, fl idx ci = some k → ∃ (C : String) (T : u_T) (N : Nat) (ref : String), V.cl[ci]? = some (C, T, N) ∧ k < N ∧ Cond.fieldLink own idx ref (T k).2.1 (T k).2.2.1 ∈ V.ts ∧ (ref = (T k).1 ∨ Cond.sameField ref (T k).1 (T k).2.1 (T k).2.2.1 ∈ V.ts)
theorem ax_same {V : ax_V} {s : State} {args : Array Value} (ht : ∀ w ∈ V.ts, w.before args s = true) {ref o n d : String} (h : ref = o ∨ Cond.sameField ref o n d ∈ V.ts) : ∀ x, s.fieldFound? o n d = some x → s.fieldFound? ref n d = some x := by
  rcases h with rfl | h
  · exact fun _ q => q
  · exact fun x q => u_same (ht _ h) x q
end AX
