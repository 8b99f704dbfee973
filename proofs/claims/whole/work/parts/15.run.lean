/-! a method's code as a table (pc, instruction, length); 'AW.run X hT k n rfl': n instructions from the table's k-th on -/
def ax_T (cc : ByteArray) (T : List (Nat × Instr × Nat)) : Prop := ∀ q ∈ T, decode cc q.1 = .ok q.2
theorem ax_T.d {cc : ByteArray} {T : List (Nat × Instr × Nat)} (hT : ax_T cc T) (k : Nat) {pc len : Nat} {i : Instr} (hk : T[k]? = some (pc, i, len)) : decode cc pc = .ok (i, len) := hT (pc, i, len) (List.mem_of_getElem? hk)
def ax_go (nL : Nat) (pl : ax_pool) : Nat → List (Nat × Instr × Nat) → Nat → List (Nat × Value) → List Value → List va_E → Option (Nat × List (Nat × Value) × List Value × List va_E)
  | 0, [], pc, lv, st, h => some (pc, lv, st, h)
  | 0, (pc0, _, _) :: _, pc, lv, st, h => bif Nat.beq pc0 pc then some (pc0, lv, st, h) else none
  | _ + 1, [], _, _, _, _ => none
  | n + 1, (pc0, i, len) :: r, pc, lv, st, h => bif Nat.beq pc0 pc then ax_i nL pl (i, len) lv st h (fun lv st h => ax_go nL pl n r (pc0 + len) lv st h) else none
section AXRUN
variable {p : Program} {l : Launch} {e : Env} {R : Room} {s : State} {m : MethodId} {args : Array Value} {below : List Frame} {meth : Method} {c : Code} {V : ax_V} {G : ax_G} {cc : ByteArray} {nL : Nat} {own : String} {pl : ax_pool} {ret : Option FieldType} {cells slots : Nat} {Q : State → Prop}
theorem AW.go (X : ax_X p m meth c s args V G cc nL own pl ret) {pc' : Nat} {lv' : List (Nat × Value)} {st' : List Value} {h' : List va_E} (kk : AW p l e R s m args below meth c V G nL h' cells slots Q pc' lv' st') : ∀ {n : Nat} {T : List (Nat × Instr × Nat)} {pc : Nat} {lv : List (Nat × Value)} {st : List Value} {h : List va_E}, ax_T cc T → ax_go nL pl n T pc lv st h = some (pc', lv', st', h') →
    AW p l e R s m args below meth c V G nL h cells slots Q pc lv st
  | 0, [], pc, lv, st, h, _, hr => by
    cases hr
    exact kk
  | 0, (pc0, i, len) :: r, pc, lv, st, h, _, hr => by
    obtain ⟨e1, hr⟩ := ax_len (show (bif Nat.beq pc0 pc then _ else none) = some _ from hr)
    cases hr
    exact e1 ▸ kk
  | n + 1, [], pc, lv, st, h, _, hr => by cases hr
  | n + 1, (pc0, i, len) :: r, pc, lv, st, h, hT, hr => by
    replace hr := ax_len (show (bif Nat.beq pc0 pc then _ else none) = some _ from hr)
    obtain ⟨e1, hr⟩ := hr
    subst e1
    exact ax_i_ok X (hT (pc0, i, len) List.mem_cons_self) hr (fun lv1 st1 h1 h2 => AW.go X kk (fun q hq => hT q (List.mem_cons_of_mem _ hq)) h2)
theorem AW.run (X : ax_X p m meth c s args V G cc nL own pl ret) {T : List (Nat × Instr × Nat)} (hT : ax_T cc T) (k n : Nat) {pc pc' : Nat} {lv lv' : List (Nat × Value)} {st st' : List Value} {h h' : List va_E} (hr : ax_go nL pl n (T.drop k) pc lv st h = some (pc', lv', st', h'))
    (kk : AW p l e R s m args below meth c V G nL h' cells slots Q pc' lv' st') : AW p l e R s m args below meth c V G nL h cells slots Q pc lv st :=
  AW.go X kk (fun q hq => hT q (List.mem_of_mem_drop hq)) hr
end AXRUN
/-- a pool's fields by a list (entry, class of the object, field) -/
def ax_al : List (Nat × Nat × Nat) → Nat → Nat → Option Nat
  | [], _, _ => none
  | q :: r, i, c => bif Nat.beq q.1 i && Nat.beq q.2.1 c then some q.2.2 else ax_al r i c
theorem ax_al_mem {i c k : Nat} : ∀ {l : List (Nat × Nat × Nat)}, ax_al l i c = some k → (i, c, k) ∈ l
  | [], h => by cases h
  | q :: r, h => by
    unfold ax_al at h
    cases hb : (Nat.beq q.1 i && Nat.beq q.2.1 c) with
    | true =>
      rw [hb] at h
      rw [Bool.and_eq_true] at hb
      obtain ⟨a, b, d⟩ := q
      have h1 : a = i := Nat.eq_of_beq_eq_true hb.1
      have h2 : b = c := Nat.eq_of_beq_eq_true hb.2
      cases h
      subst h1 h2
      exact List.mem_cons_self
    | false =>
      rw [hb] at h
      exact List.mem_cons_of_mem _ (ax_al_mem h)
def ax_kl : List (Nat × Value) → Nat → Option Value
  | [], _ => none
  | q :: r, i => bif Nat.beq q.1 i then some q.2 else ax_kl r i
theorem ax_kl_mem {i : Nat} {v : Value} : ∀ {l : List (Nat × Value)}, ax_kl l i = some v → (i, v) ∈ l
  | [], h => by cases h
  | q :: r, h => by
    unfold ax_kl at h
    cases hb : Nat.beq q.1 i with
    | true =>
      rw [hb] at h
      obtain ⟨a, b⟩ := q
      have h1 : a = i := Nat.eq_of_beq_eq_true hb
      cases h
      subst h1
      exact List.mem_cons_self
    | false =>
      rw [hb] at h
      exact List.mem_cons_of_mem _ (ax_kl_mem h)
theorem ax_F_of {V : ax_V} {own : String} {l : List (Nat × Nat × Nat)} (h : ∀ q ∈ l, ∃ (C : String) (T : u_T) (N : Nat) (ref : String), V.cl[q.2.1]? = some (C, T, N) ∧ q.2.2 < N ∧ Cond.fieldLink own q.1 ref (T q.2.2).2.1 (T q.2.2).2.2.1 ∈ V.ts ∧ (ref = (T q.2.2).1 ∨ Cond.sameField ref (T q.2.2).1 (T q.2.2).2.1 (T q.2.2).2.2.1 ∈ V.ts)) : ax_F V own (ax_al l) := fun idx ci k hk => h _ (ax_al_mem hk)
theorem ax_PL_of {V : ax_V} {own : String} {l : List (Nat × Value)} (h : ∀ q ∈ l, match q.2 with | .int x => Cond.constant own q.1 x ∈ V.ts | .long x => Cond.constantLong own q.1 x ∈ V.ts | _ => True) : ax_PL V own (ax_kl l) := ⟨fun idx x hk => h _ (ax_kl_mem hk), fun idx x hk => h _ (ax_kl_mem hk)⟩
