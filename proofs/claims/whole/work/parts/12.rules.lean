/-! RULES: branches, arrays, fields, new cells, calls, ends -/
/-- a jump's goal -/
def ax_tg (pc : Nat) (off : Int) : Nat := ((pc : Int) + off).toNat
theorem ax_tg_eq {pc : Nat} {off : Int} (h : 0 ≤ (pc : Int) + off) : (pc : Int) + off = (ax_tg pc off : Int) := (Int.toNat_of_nonneg h).symm
section AXR
variable {p : Program} {l : Launch} {e : Env} {R : Room} {s : State} {m : MethodId} {args : Array Value} {below : List Frame} {meth : Method} {c : Code} {V : ax_V} {G : ax_G} {cc : ByteArray} {nL : Nat} {own : String} {pl : ax_pool} {ret : Option FieldType} {cells slots : Nat} {Q : State → Prop}
variable {pc : Nat} {lv : List (Nat × Value)} {r : List Value} {h : List va_E}
theorem AW.goto (X : ax_X p m meth c s args V G cc nL own pl ret) {off : Int} (hd : decode cc pc = .ok (.goto off, 3)) (k : AW p l e R s m args below meth c V G nL h cells slots Q (ax_tg pc off) lv r) (h0 : 0 ≤ (pc : Int) + off := by decide) : AW p l e R s m args below meth c V G nL h cells slots Q pc lv r := by
  intro H locs ls hH hl hv
  exact lv_goto X.x X.b hd (ax_tg_eq h0) (k H locs ls hH hl hv)
theorem AW.ifnull (X : ax_X p m meth c s args V G cc nL own pl ret) {a : Nat} {off : Int} (hd : decode cc pc = .ok (.ifnull off, 3)) (k : AW p l e R s m args below meth c V G nL h cells slots Q (pc + 3) lv r) : AW p l e R s m args below meth c V G nL h cells slots Q pc lv (.ref a :: r) := by
  intro H locs ls hH hl hv
  exact lv_ifnull X.x X.b hd (k H locs ls hH hl hv)
theorem AW.ifnullN (X : ax_X p m meth c s args V G cc nL own pl ret) {off : Int} (hd : decode cc pc = .ok (.ifnull off, 3)) (k : AW p l e R s m args below meth c V G nL h cells slots Q (ax_tg pc off) lv r) (h0 : 0 ≤ (pc : Int) + off := by decide) : AW p l e R s m args below meth c V G nL h cells slots Q pc lv (.null :: r) := by
  intro H locs ls hH hl hv
  exact lv_ifnullN X.x X.b hd (ax_tg_eq h0) (k H locs ls hH hl hv)
theorem AW.ifnonnull (X : ax_X p m meth c s args V G cc nL own pl ret) {a : Nat} {off : Int} (hd : decode cc pc = .ok (.ifnonnull off, 3)) (k : AW p l e R s m args below meth c V G nL h cells slots Q (ax_tg pc off) lv r) (h0 : 0 ≤ (pc : Int) + off := by decide) : AW p l e R s m args below meth c V G nL h cells slots Q pc lv (.ref a :: r) := by
  intro H locs ls hH hl hv
  exact lv_ifnonnull X.x X.b hd (ax_tg_eq h0) (k H locs ls hH hl hv)
theorem AW.ifnonnullN (X : ax_X p m meth c s args V G cc nL own pl ret) {off : Int} (hd : decode cc pc = .ok (.ifnonnull off, 3)) (k : AW p l e R s m args below meth c V G nL h cells slots Q (pc + 3) lv r) : AW p l e R s m args below meth c V G nL h cells slots Q pc lv (.null :: r) := by
  intro H locs ls hH hl hv
  exact lv_ifnonnullN X.x X.b hd (k H locs ls hH hl hv)
/-- a reference that may be compared: null, a word, a new cell -/
def ax_ok : Option Nat → Prop
  | none => True
  | some k => k < 39 ∨ ax_nC ≤ k
theorem ax_oi {G : ax_G} (hI : ax_I G) {x y : Option Nat} (hx : ax_ok x) (hy : ax_ok y) : ax_o G.ph x = ax_o G.ph y ↔ x = y := by
  cases x with
  | none => cases y <;> simp [ax_o]
  | some a =>
    cases y with
    | none => simp [ax_o]
    | some b =>
      constructor
      · intro e
        have e : G.ph a = G.ph b := Option.some.inj e
        rcases hx with hx | hx
        · rcases hy with hy | hy
          · rw [hI.1 a b hx hy e]
          · rw [hI.ne hy e]
        · rw [hI.ne hx e.symm]
      · intro e
        rw [e]
theorem ax_rf (ph : Nat → Nat) (x : Option Nat) : ax_v ph (va_rf x) = va_rf (ax_o ph x) := by cases x <;> rfl
theorem AW.acmp_eq (X : ax_X p m meth c s args V G cc nL own pl ret) (rx ry : Option Nat) (hx : ax_ok rx) (hy : ax_ok ry) {off : Int} (hd : decode cc pc = .ok (.if_acmp .eq off, 3)) (kt : rx = ry → AW p l e R s m args below meth c V G nL h cells slots Q (ax_tg pc off) lv r) (kf : ¬ rx = ry → AW p l e R s m args below meth c V G nL h cells slots Q (pc + 3) lv r) (h0 : 0 ≤ (pc : Int) + off := by decide) : AW p l e R s m args below meth c V G nL h cells slots Q pc lv (va_rf ry :: va_rf rx :: r) := by
  intro H locs ls hH hl hv
  rw [List.map_cons, List.map_cons, ax_rf, ax_rf]
  exact lv_acmp_eq X.x X.b hd (ax_tg_eq h0) (fun q => kt ((ax_oi X.i hx hy).mp q) H locs ls hH hl hv) (fun q => kf (fun z => q ((ax_oi X.i hx hy).mpr z)) H locs ls hH hl hv)
theorem AW.acmp_ne (X : ax_X p m meth c s args V G cc nL own pl ret) (rx ry : Option Nat) (hx : ax_ok rx) (hy : ax_ok ry) {off : Int} (hd : decode cc pc = .ok (.if_acmp .ne off, 3)) (kt : ¬ rx = ry → AW p l e R s m args below meth c V G nL h cells slots Q (ax_tg pc off) lv r) (kf : rx = ry → AW p l e R s m args below meth c V G nL h cells slots Q (pc + 3) lv r) (h0 : 0 ≤ (pc : Int) + off := by decide) : AW p l e R s m args below meth c V G nL h cells slots Q pc lv (va_rf ry :: va_rf rx :: r) := by
  intro H locs ls hH hl hv
  rw [List.map_cons, List.map_cons, ax_rf, ax_rf]
  exact lv_acmp_ne X.x X.b hd (ax_tg_eq h0) (fun q => kt (fun z => q ((ax_oi X.i hx hy).mpr z)) H locs ls hH hl hv) (fun q => kf ((ax_oi X.i hx hy).mp q) H locs ls hH hl hv)
theorem AW.if_eq (X : ax_X p m meth c s args V G cc nL own pl ret) {x : Int32} {off : Int} (hd : decode cc pc = .ok (.ifCond .eq off, 3)) (kt : x = 0 → AW p l e R s m args below meth c V G nL h cells slots Q (ax_tg pc off) lv r) (kf : ¬ x = 0 → AW p l e R s m args below meth c V G nL h cells slots Q (pc + 3) lv r) (h0 : 0 ≤ (pc : Int) + off := by decide) : AW p l e R s m args below meth c V G nL h cells slots Q pc lv (.int x :: r) := by
  intro H locs ls hH hl hv
  exact lv_if_eq X.x X.b hd (ax_tg_eq h0) (fun q => kt q H locs ls hH hl hv) (fun q => kf q H locs ls hH hl hv)
theorem AW.icmp_eq (X : ax_X p m meth c s args V G cc nL own pl ret) {x y : Int32} {off : Int} (hd : decode cc pc = .ok (.if_icmp .eq off, 3)) (kt : x = y → AW p l e R s m args below meth c V G nL h cells slots Q (ax_tg pc off) lv r) (kf : ¬ x = y → AW p l e R s m args below meth c V G nL h cells slots Q (pc + 3) lv r) (h0 : 0 ≤ (pc : Int) + off := by decide) : AW p l e R s m args below meth c V G nL h cells slots Q pc lv (.int y :: .int x :: r) := by
  intro H locs ls hH hl hv
  exact lv_icmp_eq X.x X.b hd (ax_tg_eq h0) (fun q => kt q H locs ls hH hl hv) (fun q => kf q H locs ls hH hl hv)
theorem AW.if_ne (X : ax_X p m meth c s args V G cc nL own pl ret) {x : Int32} {off : Int} (hd : decode cc pc = .ok (.ifCond .ne off, 3)) (kt : ¬ x = 0 → AW p l e R s m args below meth c V G nL h cells slots Q (ax_tg pc off) lv r) (kf : x = 0 → AW p l e R s m args below meth c V G nL h cells slots Q (pc + 3) lv r) (h0 : 0 ≤ (pc : Int) + off := by decide) : AW p l e R s m args below meth c V G nL h cells slots Q pc lv (.int x :: r) := by
  intro H locs ls hH hl hv
  exact lv_if_ne X.x X.b hd (ax_tg_eq h0) (fun q => kt q H locs ls hH hl hv) (fun q => kf q H locs ls hH hl hv)
theorem AW.icmp_ne (X : ax_X p m meth c s args V G cc nL own pl ret) {x y : Int32} {off : Int} (hd : decode cc pc = .ok (.if_icmp .ne off, 3)) (kt : ¬ x = y → AW p l e R s m args below meth c V G nL h cells slots Q (ax_tg pc off) lv r) (kf : x = y → AW p l e R s m args below meth c V G nL h cells slots Q (pc + 3) lv r) (h0 : 0 ≤ (pc : Int) + off := by decide) : AW p l e R s m args below meth c V G nL h cells slots Q pc lv (.int y :: .int x :: r) := by
  intro H locs ls hH hl hv
  exact lv_icmp_ne X.x X.b hd (ax_tg_eq h0) (fun q => kt q H locs ls hH hl hv) (fun q => kf q H locs ls hH hl hv)
theorem AW.if_lt (X : ax_X p m meth c s args V G cc nL own pl ret) {x : Int32} {off : Int} (hd : decode cc pc = .ok (.ifCond .lt off, 3)) (kt : x < 0 → AW p l e R s m args below meth c V G nL h cells slots Q (ax_tg pc off) lv r) (kf : ¬ x < 0 → AW p l e R s m args below meth c V G nL h cells slots Q (pc + 3) lv r) (h0 : 0 ≤ (pc : Int) + off := by decide) : AW p l e R s m args below meth c V G nL h cells slots Q pc lv (.int x :: r) := by
  intro H locs ls hH hl hv
  exact lv_if_lt X.x X.b hd (ax_tg_eq h0) (fun q => kt q H locs ls hH hl hv) (fun q => kf q H locs ls hH hl hv)
theorem AW.icmp_lt (X : ax_X p m meth c s args V G cc nL own pl ret) {x y : Int32} {off : Int} (hd : decode cc pc = .ok (.if_icmp .lt off, 3)) (kt : x < y → AW p l e R s m args below meth c V G nL h cells slots Q (ax_tg pc off) lv r) (kf : ¬ x < y → AW p l e R s m args below meth c V G nL h cells slots Q (pc + 3) lv r) (h0 : 0 ≤ (pc : Int) + off := by decide) : AW p l e R s m args below meth c V G nL h cells slots Q pc lv (.int y :: .int x :: r) := by
  intro H locs ls hH hl hv
  exact lv_icmp_lt X.x X.b hd (ax_tg_eq h0) (fun q => kt q H locs ls hH hl hv) (fun q => kf q H locs ls hH hl hv)
theorem AW.if_ge (X : ax_X p m meth c s args V G cc nL own pl ret) {x : Int32} {off : Int} (hd : decode cc pc = .ok (.ifCond .ge off, 3)) (kt : 0 ≤ x → AW p l e R s m args below meth c V G nL h cells slots Q (ax_tg pc off) lv r) (kf : ¬ 0 ≤ x → AW p l e R s m args below meth c V G nL h cells slots Q (pc + 3) lv r) (h0 : 0 ≤ (pc : Int) + off := by decide) : AW p l e R s m args below meth c V G nL h cells slots Q pc lv (.int x :: r) := by
  intro H locs ls hH hl hv
  exact lv_if_ge X.x X.b hd (ax_tg_eq h0) (fun q => kt q H locs ls hH hl hv) (fun q => kf q H locs ls hH hl hv)
theorem AW.icmp_ge (X : ax_X p m meth c s args V G cc nL own pl ret) {x y : Int32} {off : Int} (hd : decode cc pc = .ok (.if_icmp .ge off, 3)) (kt : y ≤ x → AW p l e R s m args below meth c V G nL h cells slots Q (ax_tg pc off) lv r) (kf : ¬ y ≤ x → AW p l e R s m args below meth c V G nL h cells slots Q (pc + 3) lv r) (h0 : 0 ≤ (pc : Int) + off := by decide) : AW p l e R s m args below meth c V G nL h cells slots Q pc lv (.int y :: .int x :: r) := by
  intro H locs ls hH hl hv
  exact lv_icmp_ge X.x X.b hd (ax_tg_eq h0) (fun q => kt q H locs ls hH hl hv) (fun q => kf q H locs ls hH hl hv)
theorem AW.if_gt (X : ax_X p m meth c s args V G cc nL own pl ret) {x : Int32} {off : Int} (hd : decode cc pc = .ok (.ifCond .gt off, 3)) (kt : 0 < x → AW p l e R s m args below meth c V G nL h cells slots Q (ax_tg pc off) lv r) (kf : ¬ 0 < x → AW p l e R s m args below meth c V G nL h cells slots Q (pc + 3) lv r) (h0 : 0 ≤ (pc : Int) + off := by decide) : AW p l e R s m args below meth c V G nL h cells slots Q pc lv (.int x :: r) := by
  intro H locs ls hH hl hv
  exact lv_if_gt X.x X.b hd (ax_tg_eq h0) (fun q => kt q H locs ls hH hl hv) (fun q => kf q H locs ls hH hl hv)
theorem AW.icmp_gt (X : ax_X p m meth c s args V G cc nL own pl ret) {x y : Int32} {off : Int} (hd : decode cc pc = .ok (.if_icmp .gt off, 3)) (kt : y < x → AW p l e R s m args below meth c V G nL h cells slots Q (ax_tg pc off) lv r) (kf : ¬ y < x → AW p l e R s m args below meth c V G nL h cells slots Q (pc + 3) lv r) (h0 : 0 ≤ (pc : Int) + off := by decide) : AW p l e R s m args below meth c V G nL h cells slots Q pc lv (.int y :: .int x :: r) := by
  intro H locs ls hH hl hv
  exact lv_icmp_gt X.x X.b hd (ax_tg_eq h0) (fun q => kt q H locs ls hH hl hv) (fun q => kf q H locs ls hH hl hv)
theorem AW.if_le (X : ax_X p m meth c s args V G cc nL own pl ret) {x : Int32} {off : Int} (hd : decode cc pc = .ok (.ifCond .le off, 3)) (kt : x ≤ 0 → AW p l e R s m args below meth c V G nL h cells slots Q (ax_tg pc off) lv r) (kf : ¬ x ≤ 0 → AW p l e R s m args below meth c V G nL h cells slots Q (pc + 3) lv r) (h0 : 0 ≤ (pc : Int) + off := by decide) : AW p l e R s m args below meth c V G nL h cells slots Q pc lv (.int x :: r) := by
  intro H locs ls hH hl hv
  exact lv_if_le X.x X.b hd (ax_tg_eq h0) (fun q => kt q H locs ls hH hl hv) (fun q => kf q H locs ls hH hl hv)
theorem AW.icmp_le (X : ax_X p m meth c s args V G cc nL own pl ret) {x y : Int32} {off : Int} (hd : decode cc pc = .ok (.if_icmp .le off, 3)) (kt : x ≤ y → AW p l e R s m args below meth c V G nL h cells slots Q (ax_tg pc off) lv r) (kf : ¬ x ≤ y → AW p l e R s m args below meth c V G nL h cells slots Q (pc + 3) lv r) (h0 : 0 ≤ (pc : Int) + off := by decide) : AW p l e R s m args below meth c V G nL h cells slots Q pc lv (.int y :: .int x :: r) := by
  intro H locs ls hH hl hv
  exact lv_icmp_le X.x X.b hd (ax_tg_eq h0) (fun q => kt q H locs ls hH hl hv) (fun q => kf q H locs ls hH hl hv)
theorem AW.tableOut (X : ax_X p m meth c s args V G cc nL own pl ret) {dflt lo hi : Int} {offs : Array Int} {len : Nat} {x : Int32} (hd : decode cc pc = .ok (.tableswitch dflt lo hi offs, len)) (hx : x.toInt < lo ∨ hi < x.toInt) (k : AW p l e R s m args below meth c V G nL h cells slots Q (ax_tg pc dflt) lv r) (h0 : 0 ≤ (pc : Int) + dflt := by decide) : AW p l e R s m args below meth c V G nL h cells slots Q pc lv (.int x :: r) := by
  intro H locs ls hH hl hv
  exact lv_tableOut X.x X.b hd hx (ax_tg_eq h0) (k H locs ls hH hl hv)
theorem AW.tableIn (X : ax_X p m meth c s args V G cc nL own pl ret) {dflt lo hi : Int} {offs : Array Int} {len : Nat} {x : Int32} {off : Int} (hd : decode cc pc = .ok (.tableswitch dflt lo hi offs, len)) (h1 : ¬ x.toInt < lo) (h2 : ¬ hi < x.toInt) (ho : offs[(x.toInt - lo).toNat]? = some off) (k : AW p l e R s m args below meth c V G nL h cells slots Q (ax_tg pc off) lv r) (h0 : 0 ≤ (pc : Int) + off := by decide) : AW p l e R s m args below meth c V G nL h cells slots Q pc lv (.int x :: r) := by
  intro H locs ls hH hl hv
  exact lv_tableIn X.x X.b hd h1 h2 ho (ax_tg_eq h0) (k H locs ls hH hl hv)
theorem AW.lookup (X : ax_X p m meth c s args V G cc nL own pl ret) {dflt : Int} {ps : Array (Int × Int)} {len : Nat} {x : Int32} {off : Int} (hd : decode cc pc = .ok (.lookupswitch dflt ps, len)) (hp : (ps.toList.zip (ps.toList.drop 1)).all (fun (a, next) => a.1 < next.1) = true) (ho : Op.lookupswitch.offset ps.toList dflt x.toInt = off) (k : AW p l e R s m args below meth c V G nL h cells slots Q (ax_tg pc off) lv r) (h0 : 0 ≤ (pc : Int) + off := by decide) : AW p l e R s m args below meth c V G nL h cells slots Q pc lv (.int x :: r) := by
  intro H locs ls hH hl hv
  exact lv_lookup X.x X.b hd hp ho (ax_tg_eq h0) (k H locs ls hH hl hv)
theorem AW.idiv (X : ax_X p m meth c s args V G cc nL own pl ret) {x y : Int32} (hd : decode cc pc = .ok (.idiv, 1)) (hy : ¬ y = 0) (k : AW p l e R s m args below meth c V G nL h cells slots Q (pc + 1) lv (.int (x / y) :: r)) : AW p l e R s m args below meth c V G nL h cells slots Q pc lv (.int y :: .int x :: r) := by
  intro H locs ls hH hl hv
  exact lv_idiv X.x X.b hd hy (k H locs ls hH hl hv)
theorem AW.irem (X : ax_X p m meth c s args V G cc nL own pl ret) {x y : Int32} (hd : decode cc pc = .ok (.irem, 1)) (hy : ¬ y = 0) (k : AW p l e R s m args below meth c V G nL h cells slots Q (pc + 1) lv (.int (x - x / y * y) :: r)) : AW p l e R s m args below meth c V G nL h cells slots Q pc lv (.int y :: .int x :: r) := by
  intro H locs ls hH hl hv
  exact lv_irem X.x X.b hd hy (k H locs ls hH hl hv)
theorem AW.ldiv (X : ax_X p m meth c s args V G cc nL own pl ret) {x y : Int64} (hd : decode cc pc = .ok (.ldiv, 1)) (hy : ¬ y = 0) (k : AW p l e R s m args below meth c V G nL h cells slots Q (pc + 1) lv (.long (x / y) :: r)) : AW p l e R s m args below meth c V G nL h cells slots Q pc lv (.long y :: .long x :: r) := by
  intro H locs ls hH hl hv
  exact lv_ldiv X.x X.b hd hy (k H locs ls hH hl hv)
theorem AW.lrem (X : ax_X p m meth c s args V G cc nL own pl ret) {x y : Int64} (hd : decode cc pc = .ok (.lrem, 1)) (hy : ¬ y = 0) (k : AW p l e R s m args below meth c V G nL h cells slots Q (pc + 1) lv (.long (x - x / y * y) :: r)) : AW p l e R s m args below meth c V G nL h cells slots Q pc lv (.long y :: .long x :: r) := by
  intro H locs ls hH hl hv
  exact lv_lrem X.x X.b hd hy (k H locs ls hH hl hv)
end AXR
