/-! STRAIGHT STRETCHES: 'ax_i' does one instruction on locals, stack and abstract heap; 'ax_run' a list of them -/
def ax_l : List (Nat × Value) → Nat → Option Value
  | [], _ => none
  | q :: r, n => bif Nat.beq q.1 n then some q.2 else ax_l r n
theorem ax_l_mem {n : Nat} {v : Value} : ∀ {lv : List (Nat × Value)}, ax_l lv n = some v → (n, v) ∈ lv
  | [], h => by cases h
  | q :: r, h => by
    unfold ax_l at h
    cases hb : Nat.beq q.1 n with
    | true =>
      rw [hb] at h
      have h1 := Nat.eq_of_beq_eq_true hb
      cases h
      subst h1
      exact List.mem_cons_self
    | false =>
      rw [hb] at h
      exact List.mem_cons_of_mem _ (ax_l_mem h)
theorem ax_l_at {ph : Nat → Nat} {ls : Array Slot} {nL n : Nat} {v : Value} {lv : List (Nat × Value)} (h : ax_l lv n = some v) (hv : lv_has ls nL (ax_lv ph lv)) : ls[n]? = some (.val (ax_v ph v)) :=
  hv.2.2 (n, ax_v ph v) (List.mem_map.mpr ⟨(n, v), ax_l_mem h, rfl⟩)
/-- the locals without what a store of one word (two words) at i overwrites -/
def ax_rm {α : Type} (i : Nat) : List (Nat × Value) → (List (Nat × Value) → α) → α
  | [], k => k []
  | q :: r, k => bif (!(q.1 == i) && !(q.1 + 1 == i && q.2.category == 2)) then ax_rm i r (fun r' => k (q :: r')) else ax_rm i r k
def ax_rm2 {α : Type} (i : Nat) : List (Nat × Value) → (List (Nat × Value) → α) → α
  | [], k => k []
  | q :: r, k => bif (!(q.1 == i) && (!(q.1 == i + 1) && !(q.1 + 1 == i && q.2.category == 2))) then ax_rm2 i r (fun r' => k (q :: r')) else ax_rm2 i r k
theorem ax_rm_eq {α : Type} (i : Nat) : ∀ (lv : List (Nat × Value)) (k : List (Nat × Value) → α), ax_rm i lv k = k (lv.filter (fun q => !(q.1 == i) && !(q.1 + 1 == i && q.2.category == 2)))
  | [], k => rfl
  | q :: r, k => by
    unfold ax_rm
    rw [List.filter_cons, ax_rm_eq, ax_rm_eq]
    cases (!(q.1 == i) && !(q.1 + 1 == i && q.2.category == 2)) <;> rfl
theorem ax_rm2_eq {α : Type} (i : Nat) : ∀ (lv : List (Nat × Value)) (k : List (Nat × Value) → α), ax_rm2 i lv k = k (lv.filter (fun q => !(q.1 == i) && (!(q.1 == i + 1) && !(q.1 + 1 == i && q.2.category == 2))))
  | [], k => rfl
  | q :: r, k => by
    unfold ax_rm2
    rw [List.filter_cons, ax_rm2_eq, ax_rm2_eq]
    cases (!(q.1 == i) && (!(q.1 == i + 1) && !(q.1 + 1 == i && q.2.category == 2))) <;> rfl
theorem ax_flt (ph : Nat → Nat) (f : Nat → Nat → Bool) (lv : List (Nat × Value)) : (ax_lv ph lv).filter (fun q => f q.1 q.2.category) = ax_lv ph (lv.filter (fun q => f q.1 q.2.category)) := by
  unfold ax_lv
  rw [List.filter_map]
  congr 1
  apply List.filter_congr
  intro q _
  show f q.1 (ax_v ph q.2).category = _
  rw [ax_cat]
theorem ax_fl1 (ph : Nat → Nat) (i : Nat) (v : Value) (lv : List (Nat × Value)) : (i, ax_v ph v) :: (ax_lv ph lv).filter (fun q => !(q.1 == i) && !(q.1 + 1 == i && q.2.category == 2)) = ax_lv ph ((i, v) :: lv.filter (fun q => !(q.1 == i) && !(q.1 + 1 == i && q.2.category == 2))) :=
  congrArg (List.cons _) (ax_flt ph (fun a b => !(a == i) && !(a + 1 == i && b == 2)) lv)
theorem ax_fl2 (ph : Nat → Nat) (i : Nat) (v : Value) (lv : List (Nat × Value)) : (i, ax_v ph v) :: (ax_lv ph lv).filter (fun q => !(q.1 == i) && (!(q.1 == i + 1) && !(q.1 + 1 == i && q.2.category == 2))) = ax_lv ph ((i, v) :: lv.filter (fun q => !(q.1 == i) && (!(q.1 == i + 1) && !(q.1 + 1 == i && q.2.category == 2)))) :=
  congrArg (List.cons _) (ax_flt ph (fun a b => !(a == i) && (!(a == i + 1) && !(a + 1 == i && b == 2))) lv)
def ax_f4 {α : Type} (i : Fin 4) (k : Nat → α) : α := match i with
  | 0 => k 0
  | 1 => k 1
  | 2 => k 2
  | 3 => k 3
theorem ax_f4_eq {α : Type} (i : Fin 4) (k : Nat → α) : ax_f4 i k = k i.val := by
  match i with
  | 0 => rfl
  | 1 => rfl
  | 2 => rfl
  | 3 => rfl
theorem ax_bif {α : Type} {b : Bool} {x : Option α} {r : α} (h : (bif b then x else none) = some r) : b = true ∧ x = some r := by
  cases b
  · cases h
  · exact ⟨rfl, h⟩
theorem ax_len {α : Type} {len n : Nat} {x : Option α} {r : α} (h : (bif Nat.beq len n then x else none) = some r) : len = n ∧ x = some r :=
  ⟨Nat.eq_of_beq_eq_true (ax_bif h).1, (ax_bif h).2⟩
/-- what a field of this type takes as it stands -/
def ax_fit : FieldType → Value → Bool
  | .int, .int _ => true
  | .long, .long _ => true
  | .object _, .ref _ => true
  | .object _, .null => true
  | .array _, .ref _ => true
  | .array _, .null => true
  | _, _ => false
def ax_i1 {α : Type} (st : List Value) (k : Int32 → List Value → Option α) : Option α := match st with
  | .int x :: r => k x r
  | _ => none
theorem ax_i1_ok {α : Type} {st : List Value} {k : Int32 → List Value → Option α} {z : α} (h : ax_i1 st k = some z) : ∃ (x : Int32) (r : List Value), st = .int x :: r ∧ k x r = some z := by
  unfold ax_i1 at h
  split at h
  · exact ⟨_, _, rfl, h⟩
  · cases h
def ax_ii {α : Type} (st : List Value) (k : Int32 → Int32 → List Value → Option α) : Option α := match st with
  | .int y :: .int x :: r => k x y r
  | _ => none
theorem ax_ii_ok {α : Type} {st : List Value} {k : Int32 → Int32 → List Value → Option α} {z : α} (h : ax_ii st k = some z) : ∃ (x : Int32) (y : Int32) (r : List Value), st = .int y :: .int x :: r ∧ k x y r = some z := by
  unfold ax_ii at h
  split at h
  · exact ⟨_, _, _, rfl, h⟩
  · cases h
def ax_l1 {α : Type} (st : List Value) (k : Int64 → List Value → Option α) : Option α := match st with
  | .long x :: r => k x r
  | _ => none
theorem ax_l1_ok {α : Type} {st : List Value} {k : Int64 → List Value → Option α} {z : α} (h : ax_l1 st k = some z) : ∃ (x : Int64) (r : List Value), st = .long x :: r ∧ k x r = some z := by
  unfold ax_l1 at h
  split at h
  · exact ⟨_, _, rfl, h⟩
  · cases h
def ax_ll {α : Type} (st : List Value) (k : Int64 → Int64 → List Value → Option α) : Option α := match st with
  | .long y :: .long x :: r => k x y r
  | _ => none
theorem ax_ll_ok {α : Type} {st : List Value} {k : Int64 → Int64 → List Value → Option α} {z : α} (h : ax_ll st k = some z) : ∃ (x : Int64) (y : Int64) (r : List Value), st = .long y :: .long x :: r ∧ k x y r = some z := by
  unfold ax_ll at h
  split at h
  · exact ⟨_, _, _, rfl, h⟩
  · cases h
def ax_li {α : Type} (st : List Value) (k : Int64 → Int32 → List Value → Option α) : Option α := match st with
  | .int y :: .long x :: r => k x y r
  | _ => none
theorem ax_li_ok {α : Type} {st : List Value} {k : Int64 → Int32 → List Value → Option α} {z : α} (h : ax_li st k = some z) : ∃ (x : Int64) (y : Int32) (r : List Value), st = .int y :: .long x :: r ∧ k x y r = some z := by
  unfold ax_li at h
  split at h
  · exact ⟨_, _, _, rfl, h⟩
  · cases h
def ax_any {α : Type} (o : Option Value) (k : Value → Option α) : Option α := match o with
  | some v => k v
  | none => none
theorem ax_any_ok {α : Type} {o : Option Value} {k : Value → Option α} {z : α} (h : ax_any o k = some z) : ∃ v, o = some v ∧ k v = some z := by
  unfold ax_any at h
  split at h
  · exact ⟨_, rfl, h⟩
  · cases h
def ax_isI {α : Type} (v : Value) (k : Int32 → Option α) : Option α := match v with
  | .int x => k x
  | _ => none
theorem ax_isI_ok {α : Type} {v : Value} {k : Int32 → Option α} {z : α} (h : ax_isI v k = some z) : ∃ x, v = .int x ∧ k x = some z := by
  unfold ax_isI at h
  split at h
  · exact ⟨_, rfl, h⟩
  · cases h
def ax_isL {α : Type} (v : Value) (k : Int64 → Option α) : Option α := match v with
  | .long x => k x
  | _ => none
theorem ax_isL_ok {α : Type} {v : Value} {k : Int64 → Option α} {z : α} (h : ax_isL v k = some z) : ∃ x, v = .long x ∧ k x = some z := by
  unfold ax_isL at h
  split at h
  · exact ⟨_, rfl, h⟩
  · cases h
/-- a reference or null -/
def ax_isR {α : Type} (v : Value) (kr : Nat → Option α) (kn : Option α) : Option α := match v with
  | .ref x => kr x
  | .null => kn
  | _ => none
theorem ax_isR_ok {α : Type} {v : Value} {kr : Nat → Option α} {kn : Option α} {z : α} (h : ax_isR v kr kn = some z) : (∃ x, v = .ref x ∧ kr x = some z) ∨ (v = .null ∧ kn = some z) := by
  unfold ax_isR at h
  split at h
  · exact Or.inl ⟨_, rfl, h⟩
  · exact Or.inr ⟨rfl, h⟩
  · cases h
def ax_v1 {α : Type} (st : List Value) (k : Value → List Value → Option α) : Option α := match st with
  | v :: r => k v r
  | _ => none
theorem ax_v1_ok {α : Type} {st : List Value} {k : Value → List Value → Option α} {z : α} (h : ax_v1 st k = some z) : ∃ (v : Value) (r : List Value), st = v :: r ∧ k v r = some z := by
  unfold ax_v1 at h
  split at h
  · exact ⟨_, _, rfl, h⟩
  · cases h
def ax_c1 (v : Value) : Bool := match v with
  | .int _ => true
  | .ref _ => true
  | .null => true
  | _ => false
theorem ax_c1_ok {ph : Nat → Nat} {v : Value} (h : ax_c1 v = true) : (ax_v ph v).category = 1 := by
  cases v <;> first | rfl | cases h
def ax_c2 (v : Value) : Bool := match v with
  | .long _ => true
  | _ => false
theorem ax_c2_ok {ph : Nat → Nat} {v : Value} (h : ax_c2 v = true) : (ax_v ph v).category = 2 := by
  cases v <;> first | rfl | cases h
/-- an object, its class's number -/
def ax_ob {α : Type} (o : Option va_E) (k : Nat → List Value → Option α) : Option α := match o with
  | some (.inr q) => k q.1 q.2
  | _ => none
theorem ax_ob_ok {α : Type} {o : Option va_E} {k : Nat → List Value → Option α} {z : α} (h : ax_ob o k = some z) : ∃ ci fs, o = some (.inr (ci, fs)) ∧ k ci fs = some z := by
  unfold ax_ob at h
  split at h
  · exact ⟨_, _, rfl, h⟩
  · cases h
abbrev ax_pool : Type := (Nat → Nat → Option Nat) × (Nat → Option Value) × Bool
def ax_fld {α : Type} (o : Option Nat) (k : Nat → Option α) : Option α := match o with
  | some q => k q
  | none => none
theorem ax_fld_ok {α : Type} {o : Option Nat} {k : Nat → Option α} {z : α} (h : ax_fld o k = some z) : ∃ i, o = some i ∧ k i = some z := by
  unfold ax_fld at h
  split at h
  · exact ⟨_, rfl, h⟩
  · cases h
theorem ax_blt {a b : Nat} (h : Nat.blt a b = true) : a < b := Nat.le_of_ble_eq_true h
def ax_i {α : Type} (nL : Nat) (pl : ax_pool) (q : Instr × Nat) (lv : List (Nat × Value)) (st : List Value) (h : List va_E) (k : List (Nat × Value) → List Value → List va_E → Option α) : Option α :=
  match q.1 with
  | .iconst n => bif Nat.beq q.2 1 then k lv (.int (Int32.ofInt n) :: st) h else none
  | .bipush n => bif Nat.beq q.2 2 then k lv (.int (Int8.ofInt n).toInt32 :: st) h else none
  | .sipush n => bif Nat.beq q.2 3 then k lv (.int (Int16.ofInt n).toInt32 :: st) h else none
  | .lconst n => bif Nat.beq q.2 1 then k lv (.long (Int64.ofNat n.val) :: st) h else none
  | .aconst_null => bif Nat.beq q.2 1 then k lv (.null :: st) h else none
  | .iload_n n => bif Nat.beq q.2 1 then ax_f4 n fun i => ax_any (ax_l lv i) fun v => ax_isI v fun x => k lv (.int x :: st) h else none
  | .iload i => bif Nat.beq q.2 2 then ax_any (ax_l lv i) fun v => ax_isI v fun x => k lv (.int x :: st) h else none
  | .lload_n n => bif Nat.beq q.2 1 then ax_f4 n fun i => ax_any (ax_l lv i) fun v => ax_isL v fun x => k lv (.long x :: st) h else none
  | .lload i => bif Nat.beq q.2 2 then ax_any (ax_l lv i) fun v => ax_isL v fun x => k lv (.long x :: st) h else none
  | .aload_n n => bif Nat.beq q.2 1 then ax_f4 n fun i => ax_any (ax_l lv i) fun v => ax_isR v (fun x => k lv (.ref x :: st) h) (k lv (.null :: st) h) else none
  | .aload i => bif Nat.beq q.2 2 then ax_any (ax_l lv i) fun v => ax_isR v (fun x => k lv (.ref x :: st) h) (k lv (.null :: st) h) else none
  | .istore_n n => bif Nat.beq q.2 1 then ax_f4 n fun i => ax_i1 st fun x r => bif Nat.blt (i) nL then ax_rm i lv (fun lv' => k ((i, .int x) :: lv') r h) else none else none
  | .istore i => bif Nat.beq q.2 2 then ax_i1 st fun x r => bif Nat.blt (i) nL then ax_rm i lv (fun lv' => k ((i, .int x) :: lv') r h) else none else none
  | .lstore_n n => bif Nat.beq q.2 1 then ax_f4 n fun i => ax_l1 st fun x r => bif Nat.blt (i + 1) nL then ax_rm2 i lv (fun lv' => k ((i, .long x) :: lv') r h) else none else none
  | .lstore i => bif Nat.beq q.2 2 then ax_l1 st fun x r => bif Nat.blt (i + 1) nL then ax_rm2 i lv (fun lv' => k ((i, .long x) :: lv') r h) else none else none
  | .astore_n n => bif Nat.beq q.2 1 then ax_f4 n fun i => ax_v1 st fun v r => bif Nat.blt i nL then ax_isR v (fun x => ax_rm i lv (fun lv' => k ((i, .ref x) :: lv') r h)) (ax_rm i lv (fun lv' => k ((i, .null) :: lv') r h)) else none else none
  | .astore i => bif Nat.beq q.2 2 then ax_v1 st fun v r => bif Nat.blt i nL then ax_isR v (fun x => ax_rm i lv (fun lv' => k ((i, .ref x) :: lv') r h)) (ax_rm i lv (fun lv' => k ((i, .null) :: lv') r h)) else none else none
  | .iinc i n => bif Nat.beq q.2 3 then ax_any (ax_l lv i) fun v => ax_isI v fun x => bif Nat.blt i nL then ax_rm i lv (fun lv' => k ((i, .int (x + Int32.ofInt n)) :: lv') st h) else none else none
  | .iadd => bif Nat.beq q.2 1 then ax_ii st fun x y r => k lv (.int (x + y) :: r) h else none
  | .isub => bif Nat.beq q.2 1 then ax_ii st fun x y r => k lv (.int (x - y) :: r) h else none
  | .imul => bif Nat.beq q.2 1 then ax_ii st fun x y r => k lv (.int (x * y) :: r) h else none
  | .iand => bif Nat.beq q.2 1 then ax_ii st fun x y r => k lv (.int (x &&& y) :: r) h else none
  | .ior => bif Nat.beq q.2 1 then ax_ii st fun x y r => k lv (.int (x ||| y) :: r) h else none
  | .ixor => bif Nat.beq q.2 1 then ax_ii st fun x y r => k lv (.int (x ^^^ y) :: r) h else none
  | .ishl => bif Nat.beq q.2 1 then ax_ii st fun x y r => k lv (.int (x <<< (y &&& 31)) :: r) h else none
  | .ishr => bif Nat.beq q.2 1 then ax_ii st fun x y r => k lv (.int (x >>> (y &&& 31)) :: r) h else none
  | .iushr => bif Nat.beq q.2 1 then ax_ii st fun x y r => k lv (.int ((x.toUInt32 >>> (y.toUInt32 &&& Int32.toUInt32 31)).toInt32) :: r) h else none
  | .ineg => bif Nat.beq q.2 1 then ax_i1 st fun x r => k lv (.int (-x) :: r) h else none
  | .ladd => bif Nat.beq q.2 1 then ax_ll st fun x y r => k lv (.long (x + y) :: r) h else none
  | .lsub => bif Nat.beq q.2 1 then ax_ll st fun x y r => k lv (.long (x - y) :: r) h else none
  | .lmul => bif Nat.beq q.2 1 then ax_ll st fun x y r => k lv (.long (x * y) :: r) h else none
  | .land => bif Nat.beq q.2 1 then ax_ll st fun x y r => k lv (.long (x &&& y) :: r) h else none
  | .lor => bif Nat.beq q.2 1 then ax_ll st fun x y r => k lv (.long (x ||| y) :: r) h else none
  | .lxor => bif Nat.beq q.2 1 then ax_ll st fun x y r => k lv (.long (x ^^^ y) :: r) h else none
  | .lneg => bif Nat.beq q.2 1 then ax_l1 st fun x r => k lv (.long (-x) :: r) h else none
  | .lshl => bif Nat.beq q.2 1 then ax_li st fun x y r => k lv (.long (x <<< (y.toInt64 &&& 63)) :: r) h else none
  | .lshr => bif Nat.beq q.2 1 then ax_li st fun x y r => k lv (.long (x >>> (y.toInt64 &&& 63)) :: r) h else none
  | .lushr => bif Nat.beq q.2 1 then ax_li st fun x y r => k lv (.long ((x.toUInt64 >>> (y.toInt64.toUInt64 &&& Int64.toUInt64 63)).toInt64) :: r) h else none
  | .lcmp => bif Nat.beq q.2 1 then ax_ll st fun x y r => k lv (.int (lg_cmp x y) :: r) h else none
  | .i2l => bif Nat.beq q.2 1 then ax_i1 st fun x r => k lv (.long x.toInt64 :: r) h else none
  | .l2i => bif Nat.beq q.2 1 then ax_l1 st fun x r => k lv (.int x.toInt32 :: r) h else none
  | .i2b => bif Nat.beq q.2 1 then ax_i1 st fun x r => k lv (.int x.toInt8.toInt32 :: r) h else none
  | .dup => bif Nat.beq q.2 1 then ax_v1 st fun v r => bif ax_c1 v then k lv (v :: v :: r) h else none else none
  | .pop => bif Nat.beq q.2 1 then ax_v1 st fun v r => bif ax_c1 v then k lv r h else none else none
  | .dup_x1 => bif Nat.beq q.2 1 then ax_v1 st fun v r => ax_v1 r fun u r => bif ax_c1 v && ax_c1 u then k lv (v :: u :: v :: r) h else none else none
  | .dup_x2 => bif Nat.beq q.2 1 then ax_v1 st fun v r => ax_v1 r fun u r => ax_v1 r fun w r => bif ax_c1 v && (ax_c1 u && ax_c1 w) then k lv (v :: u :: w :: v :: r) h else none else none
  | .dup2 => bif Nat.beq q.2 1 then ax_v1 st fun v r => bif ax_c2 v then k lv (v :: v :: r) h else ax_v1 r fun u r => bif ax_c1 v && ax_c1 u then k lv (v :: u :: v :: u :: r) h else none else none
  | .getfield idx => bif Nat.beq q.2 3 then ax_v1 st fun v r => ax_isR v (fun a => ax_ob (h[a]?) fun ci fs => ax_fld (pl.1 idx ci) fun i => ax_any (fs[i]?) fun u => k lv (u :: r) h) none else none
  | .ldc idx => bif Nat.beq q.2 2 then ax_any (pl.2.1 idx) fun v => ax_isI v fun x => k lv (.int x :: st) h else none
  | .ldc2_w idx => bif Nat.beq q.2 3 then ax_any (pl.2.1 idx) fun v => ax_isL v fun x => k lv (.long x :: st) h else none
  | _ => none
def ax_PL (V : ax_V) (own : String) (kl : Nat → Option Value) : Prop := (∀ (idx : Nat) (x : Int32), kl idx = some (.int x) → Cond.constant own idx x ∈ V.ts) ∧ ∀ (idx : Nat) (x : Int64), kl idx = some (.long x) → Cond.constantLong own idx x ∈ V.ts
def ax_X (p : Program) (m : MethodId) (meth : Method) (c : Code) (s : State) (args : Array Value) (V : ax_V) (G : ax_G) (cc : ByteArray) (nL : Nat) (own : String) (pl : ax_pool) (ret : Option FieldType) : Prop :=
  p.tables.exec = Jvm.exec ∧ c.code = cc ∧ c.maxLocals = nL ∧ s.vm.findClass own = some m.cls ∧ (∀ w ∈ V.ts, w.before args s = true) ∧ ax_K V G s ∧ ax_I G ∧ ax_F V own pl.1 ∧ ax_PL V own pl.2.1 ∧ GoodIn V.ts V.ts ∧ meth.locks = false ∧ meth.sig.returnType = ret ∧ (pl.2.2 = true → meth.name = "<init>")
section AXX
variable {p : Program} {s : State} {m : MethodId} {args : Array Value} {meth : Method} {c : Code} {V : ax_V} {G : ax_G} {cc : ByteArray} {nL : Nat} {own : String} {pl : ax_pool} {ret : Option FieldType}
theorem ax_X.x (X : ax_X p m meth c s args V G cc nL own pl ret) : p.tables.exec = Jvm.exec := X.1
theorem ax_X.b (X : ax_X p m meth c s args V G cc nL own pl ret) : c.code = cc := X.2.1
theorem ax_X.ml (X : ax_X p m meth c s args V G cc nL own pl ret) : c.maxLocals = nL := X.2.2.1
theorem ax_X.ow (X : ax_X p m meth c s args V G cc nL own pl ret) : s.vm.findClass own = some m.cls := X.2.2.2.1
theorem ax_X.ts (X : ax_X p m meth c s args V G cc nL own pl ret) : ∀ w ∈ V.ts, w.before args s = true := X.2.2.2.2.1
theorem ax_X.k (X : ax_X p m meth c s args V G cc nL own pl ret) : ax_K V G s := X.2.2.2.2.2.1
theorem ax_X.i (X : ax_X p m meth c s args V G cc nL own pl ret) : ax_I G := X.2.2.2.2.2.2.1
theorem ax_X.f (X : ax_X p m meth c s args V G cc nL own pl ret) : ax_F V own pl.1 := X.2.2.2.2.2.2.2.1
theorem ax_X.pk (X : ax_X p m meth c s args V G cc nL own pl ret) : ax_PL V own pl.2.1 := X.2.2.2.2.2.2.2.2.1
theorem ax_X.gd (X : ax_X p m meth c s args V G cc nL own pl ret) : GoodIn V.ts V.ts := X.2.2.2.2.2.2.2.2.2.1
theorem ax_X.lk (X : ax_X p m meth c s args V G cc nL own pl ret) : meth.locks = false := X.2.2.2.2.2.2.2.2.2.2.1
theorem ax_X.rt (X : ax_X p m meth c s args V G cc nL own pl ret) : meth.sig.returnType = ret := X.2.2.2.2.2.2.2.2.2.2.2.1
theorem ax_X.ini (X : ax_X p m meth c s args V G cc nL own pl ret) : pl.2.2 = true → meth.name = "<init>" := X.2.2.2.2.2.2.2.2.2.2.2.2
end AXX
section AXI
variable {p : Program} {l : Launch} {e : Env} {R : Room} {s : State} {m : MethodId} {args : Array Value} {below : List Frame} {meth : Method} {c : Code} {V : ax_V} {G : ax_G} {cc : ByteArray} {nL : Nat} {own : String} {pl : ax_pool} {ret : Option FieldType} {cells slots : Nat} {Q : State → Prop}
theorem ax_getf (X : ax_X p m meth c s args V G cc nL own pl ret) {pc : Nat} {ls : Array Slot} {rest : List Value} {h : List va_E} {H : Heap} {locs : List Loc} {a ci k idx : Nat} {fs : List Value} {v : Value} (hH : ax_H V G h H) (ha : h[a]? = some (.inr (ci, fs))) (hf : pl.1 idx ci = some k) (hv1 : fs[k]? = some v) (hd : decode cc pc = .ok (.getfield idx, 3))
    (kk : W p l e R s m args below meth c H locs cells slots Q (F0 m (pc + 3) ls (ax_v G.ph v :: rest))) : W p l e R s m args below meth c H locs cells slots Q (F0 m pc ls (.ref (G.ph a) :: rest)) := by
  obtain ⟨C, T, N, ref, h1, h2, h3, h4⟩ := X.f idx ci k hf
  obtain ⟨r', e1, cell, q1, q2, q3, q4⟩ := hH.1 a _ ha rfl
  have hr : r' = (C, T, N) := Option.some.inj (e1.symm.trans h1)
  subst hr
  obtain ⟨cf, kf, fi, f, hi, hsl, hst⟩ := (X.k.1 ci _ h1).1 k h2
  refine W.getf X.x X.b X.ow (X.ts _ h3) (ax_same X.ts h4 _ hi) hst q1 q3.1 (v := ax_v G.ph v) ?_ rfl rfl hd kk
  rw [hsl, q4 k h2]
  simp [vp_V, List.getD_eq_getElem?_getD, hv1]
set_option maxHeartbeats 4000000 in
theorem ax_i_ok {α : Type} (X : ax_X p m meth c s args V G cc nL own pl ret) {pc : Nat} {i : Instr} {len : Nat} (hd : decode cc pc = .ok (i, len)) {lv : List (Nat × Value)} {st : List Value} {h : List va_E} {k : List (Nat × Value) → List Value → List va_E → Option α} {z : α}
    (hi : ax_i nL pl (i, len) lv st h k = some z) (kk : ∀ lv' st' h', k lv' st' h' = some z → AW p l e R s m args below meth c V G nL h' cells slots Q (pc + len) lv' st') : AW p l e R s m args below meth c V G nL h cells slots Q pc lv st := by
  cases i with
  | iconst n =>
    have hi2 := ax_len (show (bif Nat.beq len 1 then _ else none) = some z from hi)
    clear hi
    obtain ⟨e9, hi⟩ := hi2
    subst e9
    intro H locs ls hH hl hv
    exact lv_iconst X.x X.b hd rfl (kk _ _ _ hi H locs ls hH hl hv)
  | bipush n =>
    have hi2 := ax_len (show (bif Nat.beq len 2 then _ else none) = some z from hi)
    clear hi
    obtain ⟨e9, hi⟩ := hi2
    subst e9
    intro H locs ls hH hl hv
    exact lv_bipush X.x X.b hd rfl (kk _ _ _ hi H locs ls hH hl hv)
  | sipush n =>
    have hi2 := ax_len (show (bif Nat.beq len 3 then _ else none) = some z from hi)
    clear hi
    obtain ⟨e9, hi⟩ := hi2
    subst e9
    intro H locs ls hH hl hv
    exact lv_sipush X.x X.b hd rfl (kk _ _ _ hi H locs ls hH hl hv)
  | lconst n =>
    have hi2 := ax_len (show (bif Nat.beq len 1 then _ else none) = some z from hi)
    clear hi
    obtain ⟨e9, hi⟩ := hi2
    subst e9
    intro H locs ls hH hl hv
    exact lv_lconst X.x X.b hd rfl (kk _ _ _ hi H locs ls hH hl hv)
  | aconst_null =>
    have hi2 := ax_len (show (bif Nat.beq len 1 then _ else none) = some z from hi)
    clear hi
    obtain ⟨e9, hi⟩ := hi2
    subst e9
    intro H locs ls hH hl hv
    exact lv_null X.x X.b hd (kk _ _ _ hi H locs ls hH hl hv)
  | iload_n n =>
    have hi2 := ax_len (show (bif Nat.beq len 1 then _ else none) = some z from hi)
    clear hi
    obtain ⟨e9, hi⟩ := hi2
    subst e9
    rw [ax_f4_eq] at hi
    replace hi := ax_any_ok hi
    obtain ⟨v, hv1, hi⟩ := hi
    replace hi := ax_isI_ok hi
    obtain ⟨x, rfl, hi⟩ := hi
    intro H locs ls hH hl hv
    exact lv_iload_n X.x X.b hd rfl (ax_l_at hv1 hv) (kk _ _ _ hi H locs ls hH hl hv)
  | iload i =>
    have hi2 := ax_len (show (bif Nat.beq len 2 then _ else none) = some z from hi)
    clear hi
    obtain ⟨e9, hi⟩ := hi2
    subst e9
    replace hi := ax_any_ok hi
    obtain ⟨v, hv1, hi⟩ := hi
    replace hi := ax_isI_ok hi
    obtain ⟨x, rfl, hi⟩ := hi
    intro H locs ls hH hl hv
    exact lv_iload X.x X.b hd (ax_l_at hv1 hv) (kk _ _ _ hi H locs ls hH hl hv)
  | lload_n n =>
    have hi2 := ax_len (show (bif Nat.beq len 1 then _ else none) = some z from hi)
    clear hi
    obtain ⟨e9, hi⟩ := hi2
    subst e9
    rw [ax_f4_eq] at hi
    replace hi := ax_any_ok hi
    obtain ⟨v, hv1, hi⟩ := hi
    replace hi := ax_isL_ok hi
    obtain ⟨x, rfl, hi⟩ := hi
    intro H locs ls hH hl hv
    exact lv_lload_n X.x X.b hd rfl (ax_l_at hv1 hv) (kk _ _ _ hi H locs ls hH hl hv)
  | lload i =>
    have hi2 := ax_len (show (bif Nat.beq len 2 then _ else none) = some z from hi)
    clear hi
    obtain ⟨e9, hi⟩ := hi2
    subst e9
    replace hi := ax_any_ok hi
    obtain ⟨v, hv1, hi⟩ := hi
    replace hi := ax_isL_ok hi
    obtain ⟨x, rfl, hi⟩ := hi
    intro H locs ls hH hl hv
    exact lv_lload X.x X.b hd (ax_l_at hv1 hv) (kk _ _ _ hi H locs ls hH hl hv)
  | aload_n n =>
    have hi2 := ax_len (show (bif Nat.beq len 1 then _ else none) = some z from hi)
    clear hi
    obtain ⟨e9, hi⟩ := hi2
    subst e9
    rw [ax_f4_eq] at hi
    replace hi := ax_any_ok hi
    obtain ⟨v, hv1, hi⟩ := hi
    replace hi := ax_isR_ok hi
    rcases hi with ⟨x, rfl, hi⟩ | ⟨rfl, hi⟩
    · intro H locs ls hH hl hv
      exact lv_aload_n X.x X.b hd rfl (ax_l_at hv1 hv) (kk _ _ _ hi H locs ls hH hl hv)
    · intro H locs ls hH hl hv
      exact lv_aload_nN X.x X.b hd rfl (ax_l_at hv1 hv) (kk _ _ _ hi H locs ls hH hl hv)
  | aload i =>
    have hi2 := ax_len (show (bif Nat.beq len 2 then _ else none) = some z from hi)
    clear hi
    obtain ⟨e9, hi⟩ := hi2
    subst e9
    replace hi := ax_any_ok hi
    obtain ⟨v, hv1, hi⟩ := hi
    replace hi := ax_isR_ok hi
    rcases hi with ⟨x, rfl, hi⟩ | ⟨rfl, hi⟩
    · intro H locs ls hH hl hv
      exact lv_aload X.x X.b hd (ax_l_at hv1 hv) (kk _ _ _ hi H locs ls hH hl hv)
    · intro H locs ls hH hl hv
      exact lv_aloadN X.x X.b hd (ax_l_at hv1 hv) (kk _ _ _ hi H locs ls hH hl hv)
  | istore_n n =>
    have hi2 := ax_len (show (bif Nat.beq len 1 then _ else none) = some z from hi)
    clear hi
    obtain ⟨e9, hi⟩ := hi2
    subst e9
    rw [ax_f4_eq] at hi
    replace hi := ax_i1_ok hi
    obtain ⟨x, r, rfl, hi⟩ := hi
    replace hi := ax_bif hi
    obtain ⟨h2, hi⟩ := hi
    rw [ax_rm_eq] at hi
    intro H locs ls hH hl hv
    exact lv_istore_n X.x X.b hd rfl hv (ax_blt h2) (ax_fl1 G.ph _ (.int x) lv) (fun ls hv => (kk _ _ _ hi H locs ls hH hl hv))
  | istore i =>
    have hi2 := ax_len (show (bif Nat.beq len 2 then _ else none) = some z from hi)
    clear hi
    obtain ⟨e9, hi⟩ := hi2
    subst e9
    replace hi := ax_i1_ok hi
    obtain ⟨x, r, rfl, hi⟩ := hi
    replace hi := ax_bif hi
    obtain ⟨h2, hi⟩ := hi
    rw [ax_rm_eq] at hi
    intro H locs ls hH hl hv
    exact lv_istore X.x X.b hd hv (ax_blt h2) (ax_fl1 G.ph _ (.int x) lv) (fun ls hv => (kk _ _ _ hi H locs ls hH hl hv))
  | lstore_n n =>
    have hi2 := ax_len (show (bif Nat.beq len 1 then _ else none) = some z from hi)
    clear hi
    obtain ⟨e9, hi⟩ := hi2
    subst e9
    rw [ax_f4_eq] at hi
    replace hi := ax_l1_ok hi
    obtain ⟨x, r, rfl, hi⟩ := hi
    replace hi := ax_bif hi
    obtain ⟨h2, hi⟩ := hi
    rw [ax_rm2_eq] at hi
    intro H locs ls hH hl hv
    exact lv_lstore_n X.x X.b hd rfl hv (ax_blt h2) (ax_fl2 G.ph _ (.long x) lv) (fun ls hv => (kk _ _ _ hi H locs ls hH hl hv))
  | lstore i =>
    have hi2 := ax_len (show (bif Nat.beq len 2 then _ else none) = some z from hi)
    clear hi
    obtain ⟨e9, hi⟩ := hi2
    subst e9
    replace hi := ax_l1_ok hi
    obtain ⟨x, r, rfl, hi⟩ := hi
    replace hi := ax_bif hi
    obtain ⟨h2, hi⟩ := hi
    rw [ax_rm2_eq] at hi
    intro H locs ls hH hl hv
    exact lv_lstore X.x X.b hd hv (ax_blt h2) (ax_fl2 G.ph _ (.long x) lv) (fun ls hv => (kk _ _ _ hi H locs ls hH hl hv))
  | astore_n n =>
    have hi2 := ax_len (show (bif Nat.beq len 1 then _ else none) = some z from hi)
    clear hi
    obtain ⟨e9, hi⟩ := hi2
    subst e9
    rw [ax_f4_eq] at hi
    replace hi := ax_v1_ok hi
    obtain ⟨v, r, rfl, hi⟩ := hi
    replace hi := ax_bif hi
    obtain ⟨h2, hi⟩ := hi
    replace hi := ax_isR_ok hi
    rcases hi with ⟨x, rfl, hi⟩ | ⟨rfl, hi⟩
    · replace hi := (ax_rm_eq _ _ _).symm.trans hi
      intro H locs ls hH hl hv
      exact lv_astore_n X.x X.b hd rfl hv (ax_blt h2) (ax_fl1 G.ph _ (.ref x) lv) (fun ls hv => (kk _ _ _ hi H locs ls hH hl hv))
    · rw [ax_rm_eq] at hi
      intro H locs ls hH hl hv
      exact lv_astore_nN X.x X.b hd rfl hv (ax_blt h2) (ax_fl1 G.ph _ .null lv) (fun ls hv => (kk _ _ _ hi H locs ls hH hl hv))
  | astore i =>
    have hi2 := ax_len (show (bif Nat.beq len 2 then _ else none) = some z from hi)
    clear hi
    obtain ⟨e9, hi⟩ := hi2
    subst e9
    replace hi := ax_v1_ok hi
    obtain ⟨v, r, rfl, hi⟩ := hi
    replace hi := ax_bif hi
    obtain ⟨h2, hi⟩ := hi
    replace hi := ax_isR_ok hi
    rcases hi with ⟨x, rfl, hi⟩ | ⟨rfl, hi⟩
    · replace hi := (ax_rm_eq _ _ _).symm.trans hi
      intro H locs ls hH hl hv
      exact lv_astore X.x X.b hd hv (ax_blt h2) (ax_fl1 G.ph _ (.ref x) lv) (fun ls hv => (kk _ _ _ hi H locs ls hH hl hv))
    · rw [ax_rm_eq] at hi
      intro H locs ls hH hl hv
      exact lv_astoreN X.x X.b hd hv (ax_blt h2) (ax_fl1 G.ph _ .null lv) (fun ls hv => (kk _ _ _ hi H locs ls hH hl hv))
  | iinc i n =>
    have hi2 := ax_len (show (bif Nat.beq len 3 then _ else none) = some z from hi)
    clear hi
    obtain ⟨e9, hi⟩ := hi2
    subst e9
    replace hi := ax_any_ok hi
    obtain ⟨v, hv1, hi⟩ := hi
    replace hi := ax_isI_ok hi
    obtain ⟨x, rfl, hi⟩ := hi
    replace hi := ax_bif hi
    obtain ⟨h2, hi⟩ := hi
    rw [ax_rm_eq] at hi
    intro H locs ls hH hl hv
    obtain ⟨q, hq⟩ := List.getElem?_of_mem (List.mem_map.mpr ⟨_, ax_l_mem hv1, rfl⟩ : (i, ax_v G.ph (.int x)) ∈ ax_lv G.ph lv)
    exact lv_iinc (k := q) X.x X.b hd hv hq rfl (ax_blt h2) (ax_fl1 G.ph _ (.int (x + Int32.ofInt n)) lv) (fun ls hv => (kk _ _ _ hi H locs ls hH hl hv))
  | iadd =>
    have hi2 := ax_len (show (bif Nat.beq len 1 then _ else none) = some z from hi)
    clear hi
    obtain ⟨e9, hi⟩ := hi2
    subst e9
    replace hi := ax_ii_ok hi
    obtain ⟨x, y, r, rfl, hi⟩ := hi
    intro H locs ls hH hl hv
    exact lv_iadd X.x X.b hd (kk _ _ _ hi H locs ls hH hl hv)
  | isub =>
    have hi2 := ax_len (show (bif Nat.beq len 1 then _ else none) = some z from hi)
    clear hi
    obtain ⟨e9, hi⟩ := hi2
    subst e9
    replace hi := ax_ii_ok hi
    obtain ⟨x, y, r, rfl, hi⟩ := hi
    intro H locs ls hH hl hv
    exact lv_isub X.x X.b hd (kk _ _ _ hi H locs ls hH hl hv)
  | imul =>
    have hi2 := ax_len (show (bif Nat.beq len 1 then _ else none) = some z from hi)
    clear hi
    obtain ⟨e9, hi⟩ := hi2
    subst e9
    replace hi := ax_ii_ok hi
    obtain ⟨x, y, r, rfl, hi⟩ := hi
    intro H locs ls hH hl hv
    exact lv_imul X.x X.b hd (kk _ _ _ hi H locs ls hH hl hv)
  | iand =>
    have hi2 := ax_len (show (bif Nat.beq len 1 then _ else none) = some z from hi)
    clear hi
    obtain ⟨e9, hi⟩ := hi2
    subst e9
    replace hi := ax_ii_ok hi
    obtain ⟨x, y, r, rfl, hi⟩ := hi
    intro H locs ls hH hl hv
    exact lv_iand X.x X.b hd (kk _ _ _ hi H locs ls hH hl hv)
  | ior =>
    have hi2 := ax_len (show (bif Nat.beq len 1 then _ else none) = some z from hi)
    clear hi
    obtain ⟨e9, hi⟩ := hi2
    subst e9
    replace hi := ax_ii_ok hi
    obtain ⟨x, y, r, rfl, hi⟩ := hi
    intro H locs ls hH hl hv
    exact lv_ior X.x X.b hd (kk _ _ _ hi H locs ls hH hl hv)
  | ixor =>
    have hi2 := ax_len (show (bif Nat.beq len 1 then _ else none) = some z from hi)
    clear hi
    obtain ⟨e9, hi⟩ := hi2
    subst e9
    replace hi := ax_ii_ok hi
    obtain ⟨x, y, r, rfl, hi⟩ := hi
    intro H locs ls hH hl hv
    exact lv_ixor X.x X.b hd (kk _ _ _ hi H locs ls hH hl hv)
  | ishl =>
    have hi2 := ax_len (show (bif Nat.beq len 1 then _ else none) = some z from hi)
    clear hi
    obtain ⟨e9, hi⟩ := hi2
    subst e9
    replace hi := ax_ii_ok hi
    obtain ⟨x, y, r, rfl, hi⟩ := hi
    intro H locs ls hH hl hv
    exact lv_ishl X.x X.b hd (kk _ _ _ hi H locs ls hH hl hv)
  | ishr =>
    have hi2 := ax_len (show (bif Nat.beq len 1 then _ else none) = some z from hi)
    clear hi
    obtain ⟨e9, hi⟩ := hi2
    subst e9
    replace hi := ax_ii_ok hi
    obtain ⟨x, y, r, rfl, hi⟩ := hi
    intro H locs ls hH hl hv
    exact lv_ishr X.x X.b hd (kk _ _ _ hi H locs ls hH hl hv)
  | iushr =>
    have hi2 := ax_len (show (bif Nat.beq len 1 then _ else none) = some z from hi)
    clear hi
    obtain ⟨e9, hi⟩ := hi2
    subst e9
    replace hi := ax_ii_ok hi
    obtain ⟨x, y, r, rfl, hi⟩ := hi
    intro H locs ls hH hl hv
    exact lv_iushr X.x X.b hd rfl (kk _ _ _ hi H locs ls hH hl hv)
  | ineg =>
    have hi2 := ax_len (show (bif Nat.beq len 1 then _ else none) = some z from hi)
    clear hi
    obtain ⟨e9, hi⟩ := hi2
    subst e9
    replace hi := ax_i1_ok hi
    obtain ⟨x, r, rfl, hi⟩ := hi
    intro H locs ls hH hl hv
    exact lv_ineg X.x X.b hd (kk _ _ _ hi H locs ls hH hl hv)
  | ladd =>
    have hi2 := ax_len (show (bif Nat.beq len 1 then _ else none) = some z from hi)
    clear hi
    obtain ⟨e9, hi⟩ := hi2
    subst e9
    replace hi := ax_ll_ok hi
    obtain ⟨x, y, r, rfl, hi⟩ := hi
    intro H locs ls hH hl hv
    exact lv_ladd X.x X.b hd (kk _ _ _ hi H locs ls hH hl hv)
  | lsub =>
    have hi2 := ax_len (show (bif Nat.beq len 1 then _ else none) = some z from hi)
    clear hi
    obtain ⟨e9, hi⟩ := hi2
    subst e9
    replace hi := ax_ll_ok hi
    obtain ⟨x, y, r, rfl, hi⟩ := hi
    intro H locs ls hH hl hv
    exact lv_lsub X.x X.b hd (kk _ _ _ hi H locs ls hH hl hv)
  | lmul =>
    have hi2 := ax_len (show (bif Nat.beq len 1 then _ else none) = some z from hi)
    clear hi
    obtain ⟨e9, hi⟩ := hi2
    subst e9
    replace hi := ax_ll_ok hi
    obtain ⟨x, y, r, rfl, hi⟩ := hi
    intro H locs ls hH hl hv
    exact lv_lmul X.x X.b hd (kk _ _ _ hi H locs ls hH hl hv)
  | land =>
    have hi2 := ax_len (show (bif Nat.beq len 1 then _ else none) = some z from hi)
    clear hi
    obtain ⟨e9, hi⟩ := hi2
    subst e9
    replace hi := ax_ll_ok hi
    obtain ⟨x, y, r, rfl, hi⟩ := hi
    intro H locs ls hH hl hv
    exact lv_land X.x X.b hd (kk _ _ _ hi H locs ls hH hl hv)
  | lor =>
    have hi2 := ax_len (show (bif Nat.beq len 1 then _ else none) = some z from hi)
    clear hi
    obtain ⟨e9, hi⟩ := hi2
    subst e9
    replace hi := ax_ll_ok hi
    obtain ⟨x, y, r, rfl, hi⟩ := hi
    intro H locs ls hH hl hv
    exact lv_lor X.x X.b hd (kk _ _ _ hi H locs ls hH hl hv)
  | lxor =>
    have hi2 := ax_len (show (bif Nat.beq len 1 then _ else none) = some z from hi)
    clear hi
    obtain ⟨e9, hi⟩ := hi2
    subst e9
    replace hi := ax_ll_ok hi
    obtain ⟨x, y, r, rfl, hi⟩ := hi
    intro H locs ls hH hl hv
    exact lv_lxor X.x X.b hd (kk _ _ _ hi H locs ls hH hl hv)
  | lneg =>
    have hi2 := ax_len (show (bif Nat.beq len 1 then _ else none) = some z from hi)
    clear hi
    obtain ⟨e9, hi⟩ := hi2
    subst e9
    replace hi := ax_l1_ok hi
    obtain ⟨x, r, rfl, hi⟩ := hi
    intro H locs ls hH hl hv
    exact lv_lneg X.x X.b hd (kk _ _ _ hi H locs ls hH hl hv)
  | lshl =>
    have hi2 := ax_len (show (bif Nat.beq len 1 then _ else none) = some z from hi)
    clear hi
    obtain ⟨e9, hi⟩ := hi2
    subst e9
    replace hi := ax_li_ok hi
    obtain ⟨x, y, r, rfl, hi⟩ := hi
    intro H locs ls hH hl hv
    exact lv_lshl X.x X.b hd rfl (kk _ _ _ hi H locs ls hH hl hv)
  | lshr =>
    have hi2 := ax_len (show (bif Nat.beq len 1 then _ else none) = some z from hi)
    clear hi
    obtain ⟨e9, hi⟩ := hi2
    subst e9
    replace hi := ax_li_ok hi
    obtain ⟨x, y, r, rfl, hi⟩ := hi
    intro H locs ls hH hl hv
    exact lv_lshr X.x X.b hd rfl (kk _ _ _ hi H locs ls hH hl hv)
  | lushr =>
    have hi2 := ax_len (show (bif Nat.beq len 1 then _ else none) = some z from hi)
    clear hi
    obtain ⟨e9, hi⟩ := hi2
    subst e9
    replace hi := ax_li_ok hi
    obtain ⟨x, y, r, rfl, hi⟩ := hi
    intro H locs ls hH hl hv
    exact lv_lushr X.x X.b hd rfl (kk _ _ _ hi H locs ls hH hl hv)
  | lcmp =>
    have hi2 := ax_len (show (bif Nat.beq len 1 then _ else none) = some z from hi)
    clear hi
    obtain ⟨e9, hi⟩ := hi2
    subst e9
    replace hi := ax_ll_ok hi
    obtain ⟨x, y, r, rfl, hi⟩ := hi
    intro H locs ls hH hl hv
    exact W.lcmp X.x X.b hd (kk _ _ _ hi H locs ls hH hl hv)
  | i2l =>
    have hi2 := ax_len (show (bif Nat.beq len 1 then _ else none) = some z from hi)
    clear hi
    obtain ⟨e9, hi⟩ := hi2
    subst e9
    replace hi := ax_i1_ok hi
    obtain ⟨x, r, rfl, hi⟩ := hi
    intro H locs ls hH hl hv
    exact lv_i2l X.x X.b hd rfl (kk _ _ _ hi H locs ls hH hl hv)
  | l2i =>
    have hi2 := ax_len (show (bif Nat.beq len 1 then _ else none) = some z from hi)
    clear hi
    obtain ⟨e9, hi⟩ := hi2
    subst e9
    replace hi := ax_l1_ok hi
    obtain ⟨x, r, rfl, hi⟩ := hi
    intro H locs ls hH hl hv
    exact lv_l2i X.x X.b hd rfl (kk _ _ _ hi H locs ls hH hl hv)
  | i2b =>
    have hi2 := ax_len (show (bif Nat.beq len 1 then _ else none) = some z from hi)
    clear hi
    obtain ⟨e9, hi⟩ := hi2
    subst e9
    replace hi := ax_i1_ok hi
    obtain ⟨x, r, rfl, hi⟩ := hi
    intro H locs ls hH hl hv
    exact lv_i2b X.x X.b hd rfl (kk _ _ _ hi H locs ls hH hl hv)
  | dup =>
    have hi2 := ax_len (show (bif Nat.beq len 1 then _ else none) = some z from hi)
    clear hi
    obtain ⟨e9, hi⟩ := hi2
    subst e9
    replace hi := ax_v1_ok hi
    obtain ⟨v, r, rfl, hi⟩ := hi
    replace hi := ax_bif hi
    obtain ⟨h2, hi⟩ := hi
    intro H locs ls hH hl hv
    exact lv_dup X.x X.b hd (ax_c1_ok h2) (kk _ _ _ hi H locs ls hH hl hv)
  | pop =>
    have hi2 := ax_len (show (bif Nat.beq len 1 then _ else none) = some z from hi)
    clear hi
    obtain ⟨e9, hi⟩ := hi2
    subst e9
    replace hi := ax_v1_ok hi
    obtain ⟨v, r, rfl, hi⟩ := hi
    replace hi := ax_bif hi
    obtain ⟨h2, hi⟩ := hi
    intro H locs ls hH hl hv
    exact lv_pop X.x X.b hd (ax_c1_ok h2) (kk _ _ _ hi H locs ls hH hl hv)
  | dup_x1 =>
    have hi2 := ax_len (show (bif Nat.beq len 1 then _ else none) = some z from hi)
    clear hi
    obtain ⟨e9, hi⟩ := hi2
    subst e9
    replace hi := ax_v1_ok hi
    obtain ⟨v, r, rfl, hi⟩ := hi
    replace hi := ax_v1_ok hi
    obtain ⟨u, r, rfl, hi⟩ := hi
    replace hi := ax_bif hi
    obtain ⟨h2, hi⟩ := hi
    rw [Bool.and_eq_true] at h2
    intro H locs ls hH hl hv
    exact lv_dup_x1 X.x X.b hd (ax_c1_ok h2.1) (ax_c1_ok h2.2) (kk _ _ _ hi H locs ls hH hl hv)
  | dup_x2 =>
    have hi2 := ax_len (show (bif Nat.beq len 1 then _ else none) = some z from hi)
    clear hi
    obtain ⟨e9, hi⟩ := hi2
    subst e9
    replace hi := ax_v1_ok hi
    obtain ⟨v, r, rfl, hi⟩ := hi
    replace hi := ax_v1_ok hi
    obtain ⟨u, r, rfl, hi⟩ := hi
    replace hi := ax_v1_ok hi
    obtain ⟨w, r, rfl, hi⟩ := hi
    replace hi := ax_bif hi
    obtain ⟨h2, hi⟩ := hi
    rw [Bool.and_eq_true, Bool.and_eq_true] at h2
    intro H locs ls hH hl hv
    exact lv_dup_x2 X.x X.b hd (ax_c1_ok h2.1) (ax_c1_ok h2.2.1) (ax_c1_ok h2.2.2) (kk _ _ _ hi H locs ls hH hl hv)
  | dup2 =>
    have hi2 := ax_len (show (bif Nat.beq len 1 then _ else none) = some z from hi)
    clear hi
    obtain ⟨e9, hi⟩ := hi2
    subst e9
    replace hi := ax_v1_ok hi
    obtain ⟨v, r, rfl, hi⟩ := hi
    cases h2 : ax_c2 v with
    | true =>
      rw [h2] at hi
      intro H locs ls hH hl hv
      exact lv_dup2_2 X.x X.b hd (ax_c2_ok h2) (kk _ _ _ hi H locs ls hH hl hv)
    | false =>
      rw [h2] at hi
      replace hi := ax_v1_ok hi
      obtain ⟨u, r, rfl, hi⟩ := hi
      replace hi := ax_bif hi
      obtain ⟨h3, hi⟩ := hi
      rw [Bool.and_eq_true] at h3
      intro H locs ls hH hl hv
      exact lv_dup2_11 X.x X.b hd (ax_c1_ok h3.1) (ax_c1_ok h3.2) (kk _ _ _ hi H locs ls hH hl hv)
  | getfield idx =>
    have hi2 := ax_len (show (bif Nat.beq len 3 then _ else none) = some z from hi)
    clear hi
    obtain ⟨e9, hi⟩ := hi2
    subst e9
    replace hi := ax_v1_ok hi
    obtain ⟨v, r, rfl, hi⟩ := hi
    replace hi := ax_isR_ok hi
    rcases hi with ⟨a, rfl, hi⟩ | ⟨rfl, hi⟩
    · replace hi := ax_ob_ok hi
      obtain ⟨ci, fs, ho, hi⟩ := hi
      replace hi := ax_fld_ok hi
      obtain ⟨i, hf, hi⟩ := hi
      replace hi := ax_any_ok hi
      obtain ⟨u, hu, hi⟩ := hi
      intro H locs ls hH hl hv
      exact ax_getf X hH ho hf hu hd (kk _ _ _ hi H locs ls hH hl hv)
    · cases hi
  | ldc idx =>
    have hi2 := ax_len (show (bif Nat.beq len 2 then _ else none) = some z from hi)
    clear hi
    obtain ⟨e9, hi⟩ := hi2
    subst e9
    replace hi := ax_any_ok hi
    obtain ⟨v, hv1, hi⟩ := hi
    replace hi := ax_isI_ok hi
    obtain ⟨x, rfl, hi⟩ := hi
    intro H locs ls hH hl hv
    exact lv_ldc X.x X.b X.ow (X.ts _ (X.pk.1 idx x hv1)) hd (kk _ _ _ hi H locs ls hH hl hv)
  | ldc2_w idx =>
    have hi2 := ax_len (show (bif Nat.beq len 3 then _ else none) = some z from hi)
    clear hi
    obtain ⟨e9, hi⟩ := hi2
    subst e9
    replace hi := ax_any_ok hi
    obtain ⟨v, hv1, hi⟩ := hi
    replace hi := ax_isL_ok hi
    obtain ⟨x, rfl, hi⟩ := hi
    intro H locs ls hH hl hv
    exact lv_ldc2 X.x X.b X.ow (X.ts _ (X.pk.2 idx x hv1)) hd (kk _ _ _ hi H locs ls hH hl hv)
  | _ => exact absurd hi (fun q => by cases q)
def ax_run (nL : Nat) (pl : ax_pool) : List (Instr × Nat) → List (Nat × Value) → List Value → List va_E → Option (List (Nat × Value) × List Value × List va_E)
  | [], lv, st, h => some (lv, st, h)
  | q :: r, lv, st, h => ax_i nL pl q lv st h (fun lv st h => ax_run nL pl r lv st h)
/-- these instructions lie at pc, and end before pc' -/
def ax_sg (cc : ByteArray) : Nat → Nat → List (Instr × Nat) → Prop
  | pc, pc', [] => pc = pc'
  | pc, pc', q :: r => decode cc pc = .ok q ∧ ax_sg cc (pc + q.2) pc' r
theorem AW.seg (X : ax_X p m meth c s args V G cc nL own pl ret) {lv' : List (Nat × Value)} {st' : List Value} {h' : List va_E} : ∀ {is : List (Instr × Nat)} {pc pc' : Nat} {lv : List (Nat × Value)} {st : List Value} {h : List va_E}, ax_sg cc pc pc' is → ax_run nL pl is lv st h = some (lv', st', h') →
    AW p l e R s m args below meth c V G nL h' cells slots Q pc' lv' st' → AW p l e R s m args below meth c V G nL h cells slots Q pc lv st
  | [], pc, pc', lv, st, h, hs, hr, kk => by
    cases hs
    cases hr
    exact kk
  | q :: r, pc, pc', lv, st, h, hs, hr, kk => by
    obtain ⟨i, len⟩ := q
    exact ax_i_ok X hs.1 hr (fun lv1 st1 h1 h2 => AW.seg X hs.2 h2 kk)
end AXI
