/-! states: normal forms; locals picked anew -/
theorem upd_upd (f : Nat → Int32) (k : Nat) (x z : Int32) : upd (upd f k x) k z = upd f k z := by
  funext j
  unfold upd
  by_cases h : j = k <;> simp [h]
theorem updL_updL (f : Nat → Int64) (k : Nat) (x z : Int64) : vp_updL (vp_updL f k x) k z = vp_updL f k z := by
  funext j
  unfold vp_updL
  by_cases h : j = k <;> simp [h]
def y_A (M : x_M) (k : Nat) (f : Nat → Int32) : x_M := (M.1, va_up M.2.1 k f, M.2.2)
def y_L (M : x_M) (k : Nat) (f : Nat → Int64) : x_M := (M.1, M.2.1, va_up M.2.2 k f)
def x_A (S : x_S) (k : Nat) (f : Nat → Int32) : x_S := (S.1, va_up S.2.1 k f, S.2.2)
def x_R (S : x_S) (k : Nat) (f : Nat → Option Nat) : x_S := (S.1, S.2.1, va_up S.2.2.1 k f, S.2.2.2)
theorem va_up_id {α : Type} (f : Nat → α) (k : Nat) : va_up f k (f k) = f := by
  funext j
  unfold va_up
  by_cases h : j = k <;> simp [h]
theorem y_ii (M : x_M) (k : Nat) (x z : Int32) : y_i (y_i M k x) k z = y_i M k z := by
  unfold y_i
  rw [upd_upd]
theorem x_ii (S : x_S) (k : Nat) (x z : Int32) : x_i (x_i S k x) k z = x_i S k z := by
  unfold x_i
  rw [upd_upd]
theorem y_aA (M : x_M) (k j : Nat) (f : Nat → Int32) (x : Int32) : y_a (y_A M k f) k j x = y_A M k (upd f j x) := by
  simp only [y_a, y_A, va_up_self, bx_uu]
theorem y_lL (M : x_M) (k j : Nat) (f : Nat → Int64) (x : Int64) : y_l (y_L M k f) k j x = y_L M k (vp_updL f j x) := by
  simp only [y_l, y_L, va_up_self, bx_uu]
theorem x_aA (S : x_S) (k j : Nat) (f : Nat → Int32) (x : Int32) : x_a (x_A S k f) k j x = x_A S k (upd f j x) := by
  simp only [x_a, x_A, va_up_self, bx_uu]
theorem y_A0 (M : x_M) (k : Nat) : y_A M k (M.2.1 k) = M := by
  unfold y_A
  rw [va_up_id]
theorem y_L0 (M : x_M) (k : Nat) : y_L M k (M.2.2 k) = M := by
  unfold y_L
  rw [va_up_id]
theorem x_A0 (S : x_S) (k : Nat) : x_A S k (S.2.1 k) = S := by
  unfold x_A
  rw [va_up_id]
theorem nI_o1 (k : Nat) : nI k + Int32.ofInt 1 = nI (k + 1) := nI_1 k
theorem nI_b (n : Nat) : Int32.ofInt (n : Int) = nI n := Int32.ofInt_eq_ofNat
section AXPK
variable {p : Program} {l : Launch} {e : Env} {R : Room} {s : State} {m : MethodId} {args : Array Value} {below : List Frame} {meth : Method} {c : Code} {V : ax_V} {G : ax_G} {nL : Nat} {cells slots : Nat} {Q : State → Prop} {pc : Nat} {lv : List (Nat × Value)} {r : List Value} {h : List va_E}
theorem AW.pk {lv' : List (Nat × Value)} (ks : List Nat) (e1 : lv_pick lv ks = lv') (kk : AW p l e R s m args below meth c V G nL h cells slots Q pc lv' r) : AW p l e R s m args below meth c V G nL h cells slots Q pc lv r :=
  AW.sub (fun q hq => by
    subst e1
    obtain ⟨i, -, hi⟩ := List.mem_filterMap.mp hq
    exact List.mem_of_getElem? hi) kk
end AXPK
