/-! contracts of the JDK's own methods -/
section AXC
variable {p : Program} {l : Launch} {e : Env} {R : Room} {s : State} {m : MethodId} {args : Array Value} {below : List Frame} {meth : Method} {c : Code} {V : ax_V} {G : ax_G} {cc : ByteArray} {nL : Nat} {own : String} {pl : ax_pool} {ret : Option FieldType} {cells slots : Nat} {Q : State → Prop}
variable {pc : Nat} {lv : List (Nat × Value)} {r : List Value} {h : List va_E} {a t n j : Nat} {i : Int32}
theorem AM.ofF {y : MethodName} {maxL d mc ms : Nat} {As : List Value} {Qa : Option Value → List va_E → Prop} (hy : plainFor y = true) (hG : GoodIn V.ts V.ts) (hF : ax_F V y.cls pl.1) (hPL : ax_PL V y.cls pl.2.1) (hini : pl.2.2 = true → y.name = "<init>") (hs : (lg_sl As).length ≤ maxL)
    (body : ∀ (p : Program) (e : Env) (s : State) (m : MethodId) (args : Array Value) (below : List Frame) (meth : Method) (c : Code), ax_X p m meth c s args V G cc maxL y.cls pl ret →
      AW p l e (ax_R d mc ms) s m args below meth c V G maxL h 0 0 (MQ below (ax_Q V G Qa) args s mc ms (fun q => G.bs ≤ q)) 0 (lv_args 0 As) []) : AM l V G y cc maxL ret d mc ms As h Qa := by
  intro hI
  refine va_MetF (cc := cc) (maxL := maxL) (ret := ret) hy rfl ?_
  intro p e s m args below meth c s₁ B hml hv
  obtain ⟨rfl, hK, hH⟩ := hv
  have hts := atoms_spec (ws := .code y cc maxL ret :: V.ts) B.pre
  have X : ax_X p m meth c s ((As.map (ax_v G.ph)).toArray) V G cc maxL y.cls pl ret := ⟨B.exec, B.bytes, hml, findClass_of_methodNamed B.named, fun w hw => hts w (List.mem_cons_of_mem _ hw), hK, hI, hF, hPL, hG, B.notSynchronized, B.returns, fun q => (name_of_methodNamed B.named B.method).1.trans (hini q)⟩
  have hl := lv_entry (As.map (ax_v G.ph)) (n := maxL) (by rw [ax_sl]; exact hs)
  rw [lg_entry_eq]
  generalize (lg_sl (As.map (ax_v G.ph)) ++ List.replicate (maxL - (lg_sl (As.map (ax_v G.ph))).length) Slot.unset).toArray = ls at hl ⊢
  rw [ax_args] at hl
  exact body p e s m _ below meth c X s.heap [] ls hH (fun q hq => by cases hq) hl
end AXC
theorem JMath_floorDiv_pf : plainFor JMath_floorDiv_y = true := by decide +kernel
theorem JMath_floorMod1_pf : plainFor JMath_floorMod1_y = true := by decide +kernel
theorem JMath_floorMod2_pf : plainFor JMath_floorMod2_y = true := by decide +kernel
theorem JMath_max1_pf : plainFor JMath_max1_y = true := by decide +kernel
theorem JMath_max2_pf : plainFor JMath_max2_y = true := by decide +kernel
theorem JMath_min1_pf : plainFor JMath_min1_y = true := by decide +kernel
theorem JMath_min2_pf : plainFor JMath_min2_y = true := by decide +kernel
theorem JMath_abs_pf : plainFor JMath_abs_y = true := by decide +kernel
theorem JArrays_copyOf1_pf : plainFor JArrays_copyOf1_y = true := by decide +kernel
theorem JArrays_copyOf2_pf : plainFor JArrays_copyOf2_y = true := by decide +kernel
theorem JString_length_pf : plainFor JString_length_y = true := by decide +kernel
theorem JString_charAt_pf : plainFor JString_charAt_y = true := by decide +kernel
theorem JEnum_ordinal_pf : plainFor JEnum_ordinal_y = true := by decide +kernel
theorem JString_coder_pf : plainFor JString_coder_y = true := by decide +kernel
theorem JString_isLatin1_pf : plainFor JString_isLatin1_y = true := by decide +kernel
theorem JStringLatin1_charAt_pf : plainFor JStringLatin1_charAt_y = true := by decide +kernel
theorem JString_checkIndex_pf : plainFor JString_checkIndex_y = true := by decide +kernel
theorem JPreconditions_checkIndex_pf : plainFor JPreconditions_checkIndex_y = true := by decide +kernel
