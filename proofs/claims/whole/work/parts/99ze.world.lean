/-! .. classes, arrays, statics -/
section ZSK
variable {b : Nat} {s : State}
theorem z_cls {C : String} {n : Nat} (h : (Cond.instantiable C n).before #[Value.ref b] s = true) : ax_CA s C ((s.vm.findClass C).getD 0) := by
  obtain ⟨c, k, f1, f2, -⟩ := Cond.instantiable_spec h
  rw [f1]
  exact ⟨f1, k, f2⟩
theorem z_lay {C : String} {T : u_T} {N : Nat} (hL : ax_L VV C T N) (hvs : ∀ w ∈ VV.ts, w.before #[Value.ref b] s = true) : (∀ k, k < N → ax_Fd s (T k) (z_slot s (T k))) ∧ ax_CA s C ((s.vm.findClass C).getD 0) := by
  obtain ⟨h4, -, -, n0, h8⟩ := hL
  refine ⟨fun k hk => ?_, z_cls (hvs _ h8)⟩
  rcases u_lays hvs h4 hk with h | h
  · obtain ⟨_, _, c', k', i, f, -, -, h3, h5, -⟩ := Cond.lays_spec h
    exact ⟨c', k', i, f, h3, (z_slot_of h3).symm, h5⟩
  · obtain ⟨_, _, c', k', i, f, -, -, h3, h5, -⟩ := Cond.laysFinal_spec h
    exact ⟨c', k', i, f, h3, (z_slot_of h3).symm, h5⟩
theorem z_arr {ty : FieldType} (h : (Cond.arrayClass ty).before #[Value.ref b] s = true) : ArrOfT s ((s.vm.findClass ("[" ++ ty.toString)).getD 0) ty ∧ s.vm.findClass ("[" ++ ty.toString) = some ((s.vm.findClass ("[" ++ ty.toString)).getD 0) := by
  obtain ⟨c, k, comp, f1, f2, f3⟩ := Cond.arrayClass_spec h
  rw [f1]
  exact ⟨fun N z => ⟨(fun k h => by cases h), k, f2, comp, f3⟩, rfl⟩
theorem z_aro {C : String} (h : (Cond.arrayOver (.object C)).before #[Value.ref b] s = true) : ArrOfT s ((s.vm.findClass ("[" ++ (FieldType.object C).toString)).getD 0) (.object C) ∧ va_RA s ((s.vm.findClass ("[" ++ (FieldType.object C).toString)).getD 0) (.object C) := by
  obtain ⟨comp, c, k, f1, -, f2, f3, f4⟩ := Cond.arrayOver_spec h
  rw [f4]
  exact ⟨fun N z => ⟨(fun k h => by cases h), k, f2, comp, f3⟩, ⟨k, comp, f2, f3, f1, f4⟩⟩
theorem z_K1 (hp : ∀ w ∈ pm, w.before #[Value.ref b] s = true) (hvs : ∀ w ∈ VV.ts, w.before #[Value.ref b] s = true) (c : Nat) (q : vw_C) (hq : vcl[c]? = some q) : (∀ k, k < q.2.2 → ax_Fd s (q.2.1 k) ((z_G b s).1.2 c k)) ∧ ax_CA s q.1 ((z_G b s).1.1 c) := by
  match c, hq with
  | 0, hq => cases hq; exact z_lay L_N hvs
  | 1, hq => cases hq; exact z_lay L_T hvs
  | 2, hq => cases hq; exact z_lay L_U hvs
  | 3, hq => cases hq; exact z_lay L_R hvs
  | 4, hq => cases hq; exact z_lay L_K hvs
  | 5, hq => cases hq; exact z_lay L_S hvs
  | 6, hq => cases hq; exact z_lay L_P hvs
  | 7, hq => cases hq; exact z_lay L_Z hvs
  | 8, hq => cases hq; exact z_lay L_G hvs
  | 9, hq => cases hq; exact z_lay L_M hvs
  | 10, hq => cases hq; exact ⟨fun k hk => absurd hk (Nat.not_lt_zero k), z_cls (hvs _ N_EA)⟩
  | 11, hq => cases hq; exact ⟨fun k hk => absurd hk (Nat.not_lt_zero k), z_cls (hvs _ N_ES)⟩
  | 12, hq => cases hq; exact ⟨fun k hk => absurd hk (Nat.not_lt_zero k), z_cls (hvs _ N_EI)⟩
  | 13, hq =>
    cases hq
    have h1 : (0 : Nat) < 39 := by decide
    obtain ⟨cell, kc, g1, g2, g3, g4, g5⟩ := z_c hp (k := 0) (by decide)
    rw [z_tmw h1] at g1
    rw [if_pos h1] at g4
    refine ⟨fun k hk => ?_, ?_⟩
    · match k, hk with
      | 0, _ => exact (z_fd (q := Cl_O 0) g1 (z_eq2 (z_p hp (px_t 0 h1)) (z_x hp h1))).1
      | 1, _ => exact (z_fd (q := Cl_O 1) g1 (va_eqt (z_p hp (px_k 0 h1)))).1
      | 2, _ => exact (z_fd (q := Cl_O 2) g1 (va_eqt (z_p hp (px_g 0 h1)))).1
      | 3, _ => exact (z_fd (q := Cl_O 3) g1 (va_eqt (z_p hp (px_o 0 h1)))).1
      | (n + 4), h => exact absurd h (Nat.not_lt.mpr (Nat.le_add_left 4 n))
    · show ax_CA s "NumberFunctions$Word" ((s.vm.findClass "NumberFunctions$Word").getD 0)
      rw [g4]
      exact ⟨g4, kc, g5⟩
  | 14, hq =>
    cases hq
    have h1 : (0 : Nat) < 39 := by decide
    obtain ⟨cell, kc, g1, g2, g3, g4, g5⟩ := z_c hp (k := 39 + 0) (by decide)
    rw [z_tmx h1] at g1
    rw [if_neg (by decide)] at g4
    refine ⟨fun k hk => ?_, ?_⟩
    · match k, hk with
      | 0, _ => exact (z_fd (q := Cl_Q 0) g1 (z_b hp h1).1).1
      | 1, _ => exact (z_fd (q := Cl_Q 1) g1 (va_eqt (z_p hp (px_c 0 h1)))).1
      | (n + 2), h => exact absurd h (Nat.not_lt.mpr (Nat.le_add_left 2 n))
    · show ax_CA s "java/lang/String" ((s.vm.findClass "java/lang/String").getD 0)
      rw [g4]
      exact ⟨g4, kc, g5⟩
  | (n + 15), hq => exact absurd (List.getElem?_eq_some_iff.mp hq).1 (Nat.not_lt.mpr (Nat.le_add_left 15 n))
theorem z_K2 (hts : ∀ w ∈ tables_1, w.before #[Value.ref b] s = true) (k : Nat) (ty : FieldType) (hk : vtl[k]? = some ty) : ArrOfT s ((z_G b s).ca k) ty ∧ va_RA s ((z_G b s).ca k) ty := by
  match k, hk with
  | 0, hk => cases hk; exact z_arr (hts _ tb_tl.1)
  | 1, hk => cases hk; exact z_arr (hts _ tb_tl.2.1)
  | 2, hk => cases hk; exact z_arr (hts _ tb_tl.2.2.1)
  | 3, hk => cases hk; exact z_arr (hts _ tb_tl.2.2.2)
  | 4, hk => cases hk; exact z_aro (hts _ (tb_ao _ (List.mem_of_getElem? (i := 0) rfl)))
  | 5, hk => cases hk; exact z_aro (hts _ (tb_ao _ (List.mem_of_getElem? (i := 1) rfl)))
  | (n + 6), hk => exact absurd (List.getElem?_eq_some_iff.mp hk).1 (Nat.not_lt.mpr (Nat.le_add_left 6 n))
theorem z_K3 (hp : ∀ w ∈ pm, w.before #[Value.ref b] s = true) (hts : ∀ w ∈ tables_1, w.before #[Value.ref b] s = true) (z : String × String × String × Value) (hz : z ∈ vzs) : va_Z z.1 z.2.1 z.2.2.1 (ax_v (z_G b s).ph z.2.2.2) (fun q => (z_G b s).bs ≤ q) s s.heap := by
  have hm := tb_zs (z.1, z.2.1, z.2.2.1) (List.mem_map.mpr ⟨z, hz, rfl⟩)
  refine va_Zof (hts _ hm.1) (hts _ hm.2) ?_ z_bs
  rw [z_vzs] at hz
  rcases List.mem_append.mp hz with h | h
  · obtain ⟨k, hk, rfl⟩ := List.mem_map.mp h
    exact z_w hp (List.mem_range.mp hk)
  · simp only [List.mem_cons, List.not_mem_nil, or_false] at h
    rcases h with rfl | rfl | rfl
    · exact (z_a hp).1
    · exact (z_s hp).1
    · exact va_eqt (z_p hp px_9.1)
theorem z_K4 (hp : ∀ w ∈ pm, w.before #[Value.ref b] s = true) (z : Nat × FieldType × Nat × (Nat → Value)) (hz : z ∈ vta) : va_T z.2.1 ((z_G b s).ph z.1) z.2.2.1 (fun j => ax_v (z_G b s).ph (z.2.2.2 j)) (fun q => (z_G b s).bs ≤ q) s s.heap := by
  rw [z_vta] at hz
  rcases List.mem_append.mp hz with h | h
  · simp only [List.mem_cons, List.not_mem_nil, or_false] at h
    rcases h with rfl | rfl
    · exact (z_a hp).2
    · exact (z_s hp).2
  · obtain ⟨k, hk, rfl⟩ := List.mem_map.mp h
    exact (z_b hp (List.mem_range.mp hk)).2
theorem z_K8 (hp : ∀ w ∈ pm, w.before #[Value.ref b] s = true) (hts : ∀ w ∈ tables_1, w.before #[Value.ref b] s = true) (z : String × Nat × String × Nat) (hz : z ∈ vsr) : vk_R z.1 z.2.1 z.2.2.1 ((z_G b s).ph z.2.2.2) s := by
  refine vk_R.of (hts _ (tb_sr z hz)) ?_
  rcases tb_s2 z hz with ⟨-, h2, h3⟩ | ⟨q, hq, h1, h2, h3⟩
  · rw [h3]
    obtain ⟨cell, kc, g1, -⟩ := z_c hp h2
    exact g1
  · obtain ⟨hk, hm⟩ := px_m q hq
    rw [h1, h2, h3]
    exact z_eq2 (z_p hp hm) (z_x hp hk)
theorem z_sfo (hp : ∀ w ∈ pm, w.before #[Value.ref b] s = true) (hts : ∀ w ∈ tables_1, w.before #[Value.ref b] s = true) : ax_sf (z_G b s) s := by
  have h := z_p hp px_9.2.1
  cases hv : z_E b s z_sf with
  | none => simp [Cond.before, Cond.holds, Cond.value, hv] at h
  | some v =>
    cases v with
    | null => exact Or.inl (va_Zof (hts _ tb_ls.2.2.1) (hts _ tb_ls.2.2.2.1) hv z_bs)
    | ref a =>
      refine Or.inr ?_
      by_cases ha : a < s.heap.size
      · refine ⟨129, ?_⟩
        have e : (z_G b s).ph 129 = a := by
          show z_ad b s 129 = a
          unfold z_ad
          rw [if_pos rfl, z_r_of hv, if_pos ha]
        rw [e]
        exact va_Zof (hts _ tb_ls.2.2.1) (hts _ tb_ls.2.2.2.1) hv z_bs
      · refine ⟨132 + (a - s.heap.size), ?_⟩
        have e : (z_G b s).ph (132 + (a - s.heap.size)) = a := by
          show z_ad b s (132 + (a - s.heap.size)) = a
          unfold z_ad
          rw [if_neg (by omega), if_neg (by omega), Nat.add_sub_cancel_left]
          exact Nat.add_sub_cancel' (Nat.not_lt.mp ha)
        rw [e]
        exact va_Zof (hts _ tb_ls.2.2.1) (hts _ tb_ls.2.2.2.1) hv z_bs
    | _ => simp [Cond.before, Cond.holds, Cond.value, hv] at h
theorem z_K (hp : ∀ w ∈ pm, w.before #[Value.ref b] s = true) (hts : ∀ w ∈ tables_1, w.before #[Value.ref b] s = true) (hvs : ∀ w ∈ VV.ts, w.before #[Value.ref b] s = true) : ax_K VV (z_G b s) s :=
  ⟨z_K1 hp hvs, z_K2 hts, z_K3 hp hts, z_K4 hp, fun z hz => va_Nw.of rfl (hts _ (tb_ct z hz)), fun z hz => va_Nw.of rfl (hts _ (tb_dc z hz)), fun z hz => va_AO.of (hts _ (tb_ao z hz)), z_K8 hp hts, va_Nc.of (z_p hp px_9.2.2), z_sfo hp hts⟩
theorem z_lso {C n d : String} (h : (Cond.laysStatic C n d).before #[Value.ref b] s = true) : ax_ls C n d (fun q => (z_G b s).bs ≤ q) s s.heap := by
  obtain ⟨c, k, i, f, a, cell, h1, h2, h3, h4, h5, h6, h7, h8, h9⟩ := Cond.laysStatic_spec h
  exact ⟨c, k, i, f, a, cell, h1, h2, h4, h5, z_bs a (Array.getElem?_eq_some_iff.mp h5).1, h3, h6, h7, h8, h9⟩
theorem z_LS (hp : ∀ w ∈ pm, w.before #[Value.ref b] s = true) (hts : ∀ w ∈ tables_1, w.before #[Value.ref b] s = true) : ax_LS (z_G b s) s := ⟨z_lso (hts _ tb_ls.1), z_lso (hts _ tb_ls.2.1), va_Zqof (hts _ tb_ls.1) (hts _ tb_th) (z_p hp px_u.1) z_bs, va_Zqof (hts _ tb_ls.2.1) (hts _ tb_th) (z_p hp px_u.2) z_bs⟩
end ZSK
