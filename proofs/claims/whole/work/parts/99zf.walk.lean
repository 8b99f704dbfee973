/-! THE WALK FROM THE LAW'S START -/
set_option maxHeartbeats 4000000 in
theorem whole_start (l : Launch) (hl0 : l.stackTraces = false) {p : Program} {e : Env} {s : State} {m : MethodId} {below : List Frame} {meth : Method} {c : Code} {b L : Nat} {xs : Nat → Int32} (hL : L ≤ 3072) (C0 : lw_At p s m meth c b L xs) :
    W p l e room_1 s m #[Value.ref b] below meth c s.heap [] 0 0 (lw_Z below #[Value.ref b] s) (entryFrame m ([Value.ref b] : List Value).toArray 7) := by
  obtain ⟨hx, hb, hr, hml, hown, hts, hX, hbl, hlk, hgv⟩ := C0
  have hp : ∀ w ∈ pm, w.before #[Value.ref b] s = true := flA_ok _ [] hgv (fun w hw => by cases hw)
  have ht1 : ∀ w ∈ tables_1, w.before #[Value.ref b] s = true := fun w hw => hts w (List.mem_append_right _ hw)
  have hvs : ∀ w ∈ VV.ts, w.before #[Value.ref b] s = true := fun w hw => hts w (List.mem_filter.mp hw).1
  have hK := z_K hp ht1 hvs
  have hI := z_I hp hbl
  have hH := z_H hp
  have X : ax_X p m meth c s #[Value.ref b] VV (z_G b s) L_law_c 7 "NumberFunctionsLaw" pl_L (some .boolean) := ⟨hx, hb, hml, hown, hvs, hK, hI, fl_L_ok, kl_L_ok, v_good, hlk, hr, nofun⟩
  have hX2 : va_X ((z_G b s).ph 89) L xs s (z_G b s).H0 := by
    rw [z_89]
    exact hX
  have k := lw_body (p := p) (l := l) (e := e) (below := below) hl0 X (z_LS hp ht1) hX2 hL rfl
  have e9 : ([Value.ref b] : List Value) = [Value.ref 89].map (ax_v (z_G b s).ph) := by
    show _ = [Value.ref ((z_G b s).ph 89)]
    rw [z_89]
  have e10 : entryFrame m ([Value.ref b] : List Value).toArray 7 = entryFrame m ([Value.ref 89].map (ax_v (z_G b s).ph)).toArray 7 := congrArg (fun q : List Value => entryFrame m q.toArray 7) e9
  have hl := lv_entry ([Value.ref 89].map (ax_v (z_G b s).ph)) (n := 7) (by rw [ax_sl]; decide)
  rw [e10, lg_entry_eq]
  generalize (lg_sl ([Value.ref 89].map (ax_v (z_G b s).ph)) ++ List.replicate (7 - (lg_sl ([Value.ref 89].map (ax_v (z_G b s).ph))).length) Slot.unset).toArray = ls at hl ⊢
  rw [ax_args] at hl
  exact k s.heap [] ls hH (fun q hq => by cases hq) hl
