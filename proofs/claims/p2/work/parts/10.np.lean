/-! contracts (by wip/p1/gen.py) -/
theorem mw_275 : (.fieldLink R_NP 34 R_NP "machine" "LNestPascal$Machine;" : Cond) ∈ nn_gw := nn_at 275 (by decide +kernel) (by decide +kernel)
theorem mw_353 : (.methodLink R_NP 94 y_Ma_fact : Cond) ∈ nn_gw := nn_at 353 (by decide +kernel) (by decide +kernel)
theorem mw_354 : (.instanceMethod y_Ma_fact : Cond) ∈ nn_gw := nn_at 354 (by decide +kernel) (by decide +kernel)
theorem mw_355 : (.selects R_Ma y_Ma_fact y_Ma_fact : Cond) ∈ nn_gw := nn_at 355 (by decide +kernel) (by decide +kernel)
theorem mw_356 : (.code y_Ma_fact b_Ma_fact 2 (some .int) : Cond) ∈ nn_gw := nn_at 356 (by decide +kernel) (by decide +kernel)
theorem d_NP_about_0 : decode b_NP_about 0 = .ok (.aload_n 0, 1) := by decide +kernel
theorem d_NP_about_1 : decode b_NP_about 1 = .ok (.getfield 34, 3) := by decide +kernel
theorem d_NP_about_4 : decode b_NP_about 4 = .ok (.iload_n 1, 1) := by decide +kernel
theorem d_NP_about_5 : decode b_NP_about 5 = .ok (.invokevirtual 94, 3) := by decide +kernel
theorem d_NP_about_8 : decode b_NP_about 8 = .ok (.ireturn, 1) := by decide +kernel

set_option maxHeartbeats 4000000 in
set_option maxRecDepth 100000 in
theorem g_NP_about (l : Launch) (G : nn_G) (sz : Nat) (h9 tx cm h1 h0 : Nat) (tn : Nat) (x1 x2 : Nat) (f g : Nat → Int32) (v1 v2 v3 v4 v5 : Int32) (oc : Nat) (k : Int32) : Met l y_NP_about w_NP_about ({ frames := 1, cells := 0, slots := 0, locals := 21 }) (nn_P G [.ref h9, .int k] [(h9, .inr (0, [.ref tx, .int (nI tn), .ref cm, .ref h1, .ref h0])), (h0, .inr (3, [.ref x1, .ref x2, .int v1, .int v2, .int v3, .int v4, .int v5, .int (nI oc)])), (x1, .inl (G.2 0, 200, .inl (f))), (x2, .inl (G.2 0, 8, .inl (g)))] sz) (vp_Si (fun r => True)) 0 0 (fun _ => False) := by
  refine Met.ofW (cc := b_NP_about) (maxL := 2) (ret := some .int) (by decide) rfl ?_
  intro p e s m args below meth c s₁ B hml hv
  obtain ⟨rfl, hsz, hP, hK, hD0, hN⟩ := hv
  have hx := B.exec
  have hb := B.bytes
  have hr := B.returns
  have hts := atoms_spec (ws := w_NP_about) B.pre
  have hg : ∀ w ∈ nn_gw, w.before _ s = true := fun w h => hts w (List.mem_cons_of_mem _ h)
  have hown : s.vm.findClass R_NP = some m.cls := findClass_of_methodNamed B.named
  have hlocks := B.notSynchronized
  subst hsz
  have hD := hD0
  generalize hAe : (fun _ : Nat => True) = A at hD
  have hA : ∀ q : Nat, s.heap.size ≤ q → A q := fun q h => by rw [← hAe]; trivial
  have hS : va_S A s.heap s.heap [] := va_S.rf
  have hP : va_P G.1 nn_cls [(h9, .inr (0, [.ref tx, .int (nI tn), .ref cm, .ref h1, .ref h0])), (h0, .inr (3, [.ref x1, .ref x2, .int v1, .int v2, .int v3, .int v4, .int v5, .int (nI oc)])), (x1, .inl (G.2 0, 200, .inl (f))), (x2, .inl (G.2 0, 8, .inl (g)))] s.heap := hP
  have hl := lv_entry ([.ref h9, .int k]) (n := 2) (Nat.le_of_ble_eq_true rfl)
  rw [lg_entry_eq]
  generalize (lg_sl ([.ref h9, .int k]) ++ List.replicate (2 - (lg_sl ([.ref h9, .int k])).length) Slot.unset).toArray = ls at hl ⊢
  have hl : lv_has ls 2 [(0, .ref h9), (1, .int k)] := hl
  refine lv_aload_n hx hb d_NP_about_0 rfl (lv_at hl 0 rfl) ?_
  refine va_get (D := G.1) (ci := 0) (v := .ref h0) (C := R_NP) (T := T_NP) (N := 5) hx hb hg in_NP hown hK hP 0 rfl rfl 4 (by decide) (hg _ mw_275) (fun _ h9 => h9) rfl d_NP_about_1 ?_
  refine lv_iload_n hx hb d_NP_about_4 rfl (lv_at hl 1 rfl) ?_
  have hPc := hP.sub (ws' := [(h0, .inr (3, [.ref x1, .ref x2, .int v1, .int v2, .int v3, .int v4, .int v5, .int (nI oc)])), (x1, .inl (G.2 0, 200, .inl (f))), (x2, .inl (G.2 0, 8, .inl (g)))]) [1, 2, 3] rfl
  have hDc := hD.sub (ws' := [(h0, .inr (3, [.ref x1, .ref x2, .int v1, .int v2, .int v3, .int v4, .int v5, .int (nI oc)])), (x1, .inl (G.2 0, 200, .inl (f))), (x2, .inl (G.2 0, 8, .inl (g)))]) [1, 2, 3] (by decide) rfl
  refine vp_callSi (va_Run.run (va_runV (As := [.int k]) (rest := []) ⟨hx, hb, hml, hown, hts⟩ (g_Ma_fact l G _ h0 x1 x2 f g v1 v2 v3 v4 v5 oc k) (cwV 1 hts (nn_gV mw_356 mw_353 mw_354 mw_355 mw_93) rfl rfl rfl (by decide +kernel) ⟨Nat.le_of_ble_eq_true rfl, Nat.le_of_ble_eq_true rfl⟩) (nn_preV (va_recv hK hP rfl (q0 := 1) rfl) hPc hDc hK hN) rfl rfl hl.1 rfl (lv_room (Nat.le_of_ble_eq_true rfl)) d_NP_about_5 ⟨(Nat.le_of_ble_eq_true rfl), (Nat.le_of_ble_eq_true rfl)⟩)) (fun r1 er1 => ?_)
  exact W.iret (v := r1) hx hb hr (fun t ht hW => ⟨r1, rfl, trivial, ht⟩) (fun q h => by cases h) d_NP_about_8

theorem mw_361 : (.methodLink R_NP 97 y_Ma_visibleCell : Cond) ∈ nn_gw := nn_at 361 (by decide +kernel) (by decide +kernel)
theorem mw_362 : (.instanceMethod y_Ma_visibleCell : Cond) ∈ nn_gw := nn_at 362 (by decide +kernel) (by decide +kernel)
theorem mw_363 : (.selects R_Ma y_Ma_visibleCell y_Ma_visibleCell : Cond) ∈ nn_gw := nn_at 363 (by decide +kernel) (by decide +kernel)
theorem mw_364 : (.code y_Ma_visibleCell b_Ma_visibleCell 3 (some .int) : Cond) ∈ nn_gw := nn_at 364 (by decide +kernel) (by decide +kernel)
theorem d_NP_cell_0 : decode b_NP_cell 0 = .ok (.aload_n 0, 1) := by decide +kernel
theorem d_NP_cell_1 : decode b_NP_cell 1 = .ok (.getfield 34, 3) := by decide +kernel
theorem d_NP_cell_4 : decode b_NP_cell 4 = .ok (.iload_n 1, 1) := by decide +kernel
theorem d_NP_cell_5 : decode b_NP_cell 5 = .ok (.invokevirtual 97, 3) := by decide +kernel
theorem d_NP_cell_8 : decode b_NP_cell 8 = .ok (.ireturn, 1) := by decide +kernel

set_option maxHeartbeats 4000000 in
set_option maxRecDepth 100000 in
theorem g_NP_cell (l : Launch) (G : nn_G) (sz : Nat) (h9 tx cm h1 h0 : Nat) (tn : Nat) (x1 x2 : Nat) (f g : Nat → Int32) (v1 v2 v3 v4 v5 : Int32) (oc : Nat) (k : Int32) : Met l y_NP_cell w_NP_cell ({ frames := 2, cells := 0, slots := 0, locals := 43 }) (nn_P G [.ref h9, .int k] [(h9, .inr (0, [.ref tx, .int (nI tn), .ref cm, .ref h1, .ref h0])), (h0, .inr (3, [.ref x1, .ref x2, .int v1, .int v2, .int v3, .int v4, .int v5, .int (nI oc)])), (x1, .inl (G.2 0, 200, .inl (f))), (x2, .inl (G.2 0, 8, .inl (g)))] sz) (vp_Si (fun r => True)) 0 0 (fun _ => False) := by
  refine Met.ofW (cc := b_NP_cell) (maxL := 2) (ret := some .int) (by decide) rfl ?_
  intro p e s m args below meth c s₁ B hml hv
  obtain ⟨rfl, hsz, hP, hK, hD0, hN⟩ := hv
  have hx := B.exec
  have hb := B.bytes
  have hr := B.returns
  have hts := atoms_spec (ws := w_NP_cell) B.pre
  have hg : ∀ w ∈ nn_gw, w.before _ s = true := fun w h => hts w (List.mem_cons_of_mem _ h)
  have hown : s.vm.findClass R_NP = some m.cls := findClass_of_methodNamed B.named
  have hlocks := B.notSynchronized
  subst hsz
  have hD := hD0
  generalize hAe : (fun _ : Nat => True) = A at hD
  have hA : ∀ q : Nat, s.heap.size ≤ q → A q := fun q h => by rw [← hAe]; trivial
  have hS : va_S A s.heap s.heap [] := va_S.rf
  have hP : va_P G.1 nn_cls [(h9, .inr (0, [.ref tx, .int (nI tn), .ref cm, .ref h1, .ref h0])), (h0, .inr (3, [.ref x1, .ref x2, .int v1, .int v2, .int v3, .int v4, .int v5, .int (nI oc)])), (x1, .inl (G.2 0, 200, .inl (f))), (x2, .inl (G.2 0, 8, .inl (g)))] s.heap := hP
  have hl := lv_entry ([.ref h9, .int k]) (n := 2) (Nat.le_of_ble_eq_true rfl)
  rw [lg_entry_eq]
  generalize (lg_sl ([.ref h9, .int k]) ++ List.replicate (2 - (lg_sl ([.ref h9, .int k])).length) Slot.unset).toArray = ls at hl ⊢
  have hl : lv_has ls 2 [(0, .ref h9), (1, .int k)] := hl
  refine lv_aload_n hx hb d_NP_cell_0 rfl (lv_at hl 0 rfl) ?_
  refine va_get (D := G.1) (ci := 0) (v := .ref h0) (C := R_NP) (T := T_NP) (N := 5) hx hb hg in_NP hown hK hP 0 rfl rfl 4 (by decide) (hg _ mw_275) (fun _ h9 => h9) rfl d_NP_cell_1 ?_
  refine lv_iload_n hx hb d_NP_cell_4 rfl (lv_at hl 1 rfl) ?_
  have hPc := hP.sub (ws' := [(h0, .inr (3, [.ref x1, .ref x2, .int v1, .int v2, .int v3, .int v4, .int v5, .int (nI oc)])), (x1, .inl (G.2 0, 200, .inl (f))), (x2, .inl (G.2 0, 8, .inl (g)))]) [1, 2, 3] rfl
  have hDc := hD.sub (ws' := [(h0, .inr (3, [.ref x1, .ref x2, .int v1, .int v2, .int v3, .int v4, .int v5, .int (nI oc)])), (x1, .inl (G.2 0, 200, .inl (f))), (x2, .inl (G.2 0, 8, .inl (g)))]) [1, 2, 3] (by decide) rfl
  refine vp_callSi (va_Run.run (va_runV (As := [.int k]) (rest := []) ⟨hx, hb, hml, hown, hts⟩ (g_Ma_visibleCell l G _ h0 x1 x2 f g v1 v2 v3 v4 v5 oc k) (cwV 1 hts (nn_gV mw_364 mw_361 mw_362 mw_363 mw_93) rfl rfl rfl (by decide +kernel) ⟨Nat.le_of_ble_eq_true rfl, Nat.le_of_ble_eq_true rfl⟩) (nn_preV (va_recv hK hP rfl (q0 := 1) rfl) hPc hDc hK hN) rfl rfl hl.1 rfl (lv_room (Nat.le_of_ble_eq_true rfl)) d_NP_cell_5 ⟨(Nat.le_of_ble_eq_true rfl), (Nat.le_of_ble_eq_true rfl)⟩)) (fun r1 er1 => ?_)
  exact W.iret (v := r1) hx hb hr (fun t ht hW => ⟨r1, rfl, trivial, ht⟩) (fun q h => by cases h) d_NP_cell_8

theorem mw_373 : (.methodLink R_NP 100 y_Ma_output : Cond) ∈ nn_gw := nn_at 373 (by decide +kernel) (by decide +kernel)
theorem mw_374 : (.instanceMethod y_Ma_output : Cond) ∈ nn_gw := nn_at 374 (by decide +kernel) (by decide +kernel)
theorem mw_375 : (.selects R_Ma y_Ma_output y_Ma_output : Cond) ∈ nn_gw := nn_at 375 (by decide +kernel) (by decide +kernel)
theorem mw_376 : (.code y_Ma_output b_Ma_output 2 (some .int) : Cond) ∈ nn_gw := nn_at 376 (by decide +kernel) (by decide +kernel)
theorem d_NP_written_0 : decode b_NP_written 0 = .ok (.aload_n 0, 1) := by decide +kernel
theorem d_NP_written_1 : decode b_NP_written 1 = .ok (.getfield 34, 3) := by decide +kernel
theorem d_NP_written_4 : decode b_NP_written 4 = .ok (.iload_n 1, 1) := by decide +kernel
theorem d_NP_written_5 : decode b_NP_written 5 = .ok (.invokevirtual 100, 3) := by decide +kernel
theorem d_NP_written_8 : decode b_NP_written 8 = .ok (.ireturn, 1) := by decide +kernel

set_option maxHeartbeats 4000000 in
set_option maxRecDepth 100000 in
theorem g_NP_written (l : Launch) (G : nn_G) (sz : Nat) (h9 tx cm h1 h0 : Nat) (tn : Nat) (x1 x2 : Nat) (f g : Nat → Int32) (v1 v2 v3 v4 v5 : Int32) (oc : Nat) (k : Int32) (hoc : oc < 1000000) : Met l y_NP_written w_NP_written ({ frames := 1, cells := 0, slots := 0, locals := 21 }) (nn_P G [.ref h9, .int k] [(h9, .inr (0, [.ref tx, .int (nI tn), .ref cm, .ref h1, .ref h0])), (h0, .inr (3, [.ref x1, .ref x2, .int v1, .int v2, .int v3, .int v4, .int v5, .int (nI oc)])), (x1, .inl (G.2 0, 200, .inl (f))), (x2, .inl (G.2 0, 8, .inl (g)))] sz) (vp_Si (fun r => True)) 0 0 (fun _ => False) := by
  refine Met.ofW (cc := b_NP_written) (maxL := 2) (ret := some .int) (by decide) rfl ?_
  intro p e s m args below meth c s₁ B hml hv
  obtain ⟨rfl, hsz, hP, hK, hD0, hN⟩ := hv
  have hx := B.exec
  have hb := B.bytes
  have hr := B.returns
  have hts := atoms_spec (ws := w_NP_written) B.pre
  have hg : ∀ w ∈ nn_gw, w.before _ s = true := fun w h => hts w (List.mem_cons_of_mem _ h)
  have hown : s.vm.findClass R_NP = some m.cls := findClass_of_methodNamed B.named
  have hlocks := B.notSynchronized
  subst hsz
  have hD := hD0
  generalize hAe : (fun _ : Nat => True) = A at hD
  have hA : ∀ q : Nat, s.heap.size ≤ q → A q := fun q h => by rw [← hAe]; trivial
  have hS : va_S A s.heap s.heap [] := va_S.rf
  have hP : va_P G.1 nn_cls [(h9, .inr (0, [.ref tx, .int (nI tn), .ref cm, .ref h1, .ref h0])), (h0, .inr (3, [.ref x1, .ref x2, .int v1, .int v2, .int v3, .int v4, .int v5, .int (nI oc)])), (x1, .inl (G.2 0, 200, .inl (f))), (x2, .inl (G.2 0, 8, .inl (g)))] s.heap := hP
  have hl := lv_entry ([.ref h9, .int k]) (n := 2) (Nat.le_of_ble_eq_true rfl)
  rw [lg_entry_eq]
  generalize (lg_sl ([.ref h9, .int k]) ++ List.replicate (2 - (lg_sl ([.ref h9, .int k])).length) Slot.unset).toArray = ls at hl ⊢
  have hl : lv_has ls 2 [(0, .ref h9), (1, .int k)] := hl
  refine lv_aload_n hx hb d_NP_written_0 rfl (lv_at hl 0 rfl) ?_
  refine va_get (D := G.1) (ci := 0) (v := .ref h0) (C := R_NP) (T := T_NP) (N := 5) hx hb hg in_NP hown hK hP 0 rfl rfl 4 (by decide) (hg _ mw_275) (fun _ h9 => h9) rfl d_NP_written_1 ?_
  refine lv_iload_n hx hb d_NP_written_4 rfl (lv_at hl 1 rfl) ?_
  have hPc := hP.sub (ws' := [(h0, .inr (3, [.ref x1, .ref x2, .int v1, .int v2, .int v3, .int v4, .int v5, .int (nI oc)])), (x1, .inl (G.2 0, 200, .inl (f))), (x2, .inl (G.2 0, 8, .inl (g)))]) [1, 2, 3] rfl
  have hDc := hD.sub (ws' := [(h0, .inr (3, [.ref x1, .ref x2, .int v1, .int v2, .int v3, .int v4, .int v5, .int (nI oc)])), (x1, .inl (G.2 0, 200, .inl (f))), (x2, .inl (G.2 0, 8, .inl (g)))]) [1, 2, 3] (by decide) rfl
  refine vp_callSi (va_Run.run (va_runV (As := [.int k]) (rest := []) ⟨hx, hb, hml, hown, hts⟩ (g_Ma_output l G _ h0 x1 x2 f g v1 v2 v3 v4 v5 oc k hoc) (cwV 1 hts (nn_gV mw_376 mw_373 mw_374 mw_375 mw_93) rfl rfl rfl (by decide +kernel) ⟨Nat.le_of_ble_eq_true rfl, Nat.le_of_ble_eq_true rfl⟩) (nn_preV (va_recv hK hP rfl (q0 := 1) rfl) hPc hDc hK hN) rfl rfl hl.1 rfl (lv_room (Nat.le_of_ble_eq_true rfl)) d_NP_written_5 ⟨(Nat.le_of_ble_eq_true rfl), (Nat.le_of_ble_eq_true rfl)⟩)) (fun r1 er1 => ?_)
  exact W.iret (v := r1) hx hb hr (fun t ht hW => ⟨r1, rfl, trivial, ht⟩) (fun q h => by cases h) d_NP_written_8

theorem mw_381 : (.methodLink R_NP 103 y_Ma_found : Cond) ∈ nn_gw := nn_at 381 (by decide +kernel) (by decide +kernel)
theorem mw_382 : (.instanceMethod y_Ma_found : Cond) ∈ nn_gw := nn_at 382 (by decide +kernel) (by decide +kernel)
theorem mw_383 : (.selects R_Ma y_Ma_found y_Ma_found : Cond) ∈ nn_gw := nn_at 383 (by decide +kernel) (by decide +kernel)
theorem mw_384 : (.code y_Ma_found b_Ma_found 5 (some .int) : Cond) ∈ nn_gw := nn_at 384 (by decide +kernel) (by decide +kernel)
theorem d_NP_variable_0 : decode b_NP_variable 0 = .ok (.aload_n 0, 1) := by decide +kernel
theorem d_NP_variable_1 : decode b_NP_variable 1 = .ok (.getfield 34, 3) := by decide +kernel
theorem d_NP_variable_4 : decode b_NP_variable 4 = .ok (.iload_n 1, 1) := by decide +kernel
theorem d_NP_variable_5 : decode b_NP_variable 5 = .ok (.iload_n 2, 1) := by decide +kernel
theorem d_NP_variable_6 : decode b_NP_variable 6 = .ok (.invokevirtual 103, 3) := by decide +kernel
theorem d_NP_variable_9 : decode b_NP_variable 9 = .ok (.ireturn, 1) := by decide +kernel

set_option maxHeartbeats 4000000 in
set_option maxRecDepth 100000 in
theorem g_NP_variable (l : Launch) (G : nn_G) (sz : Nat) (h9 tx cm h1 h0 : Nat) (tn : Nat) (x1 x2 : Nat) (f g : Nat → Int32) (v1 v2 v3 v4 v5 : Int32) (oc : Nat) (k j : Int32) : Met l y_NP_variable w_NP_variable ({ frames := 3, cells := 0, slots := 0, locals := 68 }) (nn_P G [.ref h9, .int k, .int j] [(h9, .inr (0, [.ref tx, .int (nI tn), .ref cm, .ref h1, .ref h0])), (h0, .inr (3, [.ref x1, .ref x2, .int v1, .int v2, .int v3, .int v4, .int v5, .int (nI oc)])), (x1, .inl (G.2 0, 200, .inl (f))), (x2, .inl (G.2 0, 8, .inl (g)))] sz) (vp_Si (fun r => True)) 0 0 (fun _ => False) := by
  refine Met.ofW (cc := b_NP_variable) (maxL := 3) (ret := some .int) (by decide) rfl ?_
  intro p e s m args below meth c s₁ B hml hv
  obtain ⟨rfl, hsz, hP, hK, hD0, hN⟩ := hv
  have hx := B.exec
  have hb := B.bytes
  have hr := B.returns
  have hts := atoms_spec (ws := w_NP_variable) B.pre
  have hg : ∀ w ∈ nn_gw, w.before _ s = true := fun w h => hts w (List.mem_cons_of_mem _ h)
  have hown : s.vm.findClass R_NP = some m.cls := findClass_of_methodNamed B.named
  have hlocks := B.notSynchronized
  subst hsz
  have hD := hD0
  generalize hAe : (fun _ : Nat => True) = A at hD
  have hA : ∀ q : Nat, s.heap.size ≤ q → A q := fun q h => by rw [← hAe]; trivial
  have hS : va_S A s.heap s.heap [] := va_S.rf
  have hP : va_P G.1 nn_cls [(h9, .inr (0, [.ref tx, .int (nI tn), .ref cm, .ref h1, .ref h0])), (h0, .inr (3, [.ref x1, .ref x2, .int v1, .int v2, .int v3, .int v4, .int v5, .int (nI oc)])), (x1, .inl (G.2 0, 200, .inl (f))), (x2, .inl (G.2 0, 8, .inl (g)))] s.heap := hP
  have hl := lv_entry ([.ref h9, .int k, .int j]) (n := 3) (Nat.le_of_ble_eq_true rfl)
  rw [lg_entry_eq]
  generalize (lg_sl ([.ref h9, .int k, .int j]) ++ List.replicate (3 - (lg_sl ([.ref h9, .int k, .int j])).length) Slot.unset).toArray = ls at hl ⊢
  have hl : lv_has ls 3 [(0, .ref h9), (1, .int k), (2, .int j)] := hl
  refine lv_aload_n hx hb d_NP_variable_0 rfl (lv_at hl 0 rfl) ?_
  refine va_get (D := G.1) (ci := 0) (v := .ref h0) (C := R_NP) (T := T_NP) (N := 5) hx hb hg in_NP hown hK hP 0 rfl rfl 4 (by decide) (hg _ mw_275) (fun _ h9 => h9) rfl d_NP_variable_1 ?_
  refine lv_iload_n hx hb d_NP_variable_4 rfl (lv_at hl 1 rfl) ?_
  refine lv_iload_n hx hb d_NP_variable_5 rfl (lv_at hl 2 rfl) ?_
  have hPc := hP.sub (ws' := [(h0, .inr (3, [.ref x1, .ref x2, .int v1, .int v2, .int v3, .int v4, .int v5, .int (nI oc)])), (x1, .inl (G.2 0, 200, .inl (f))), (x2, .inl (G.2 0, 8, .inl (g)))]) [1, 2, 3] rfl
  have hDc := hD.sub (ws' := [(h0, .inr (3, [.ref x1, .ref x2, .int v1, .int v2, .int v3, .int v4, .int v5, .int (nI oc)])), (x1, .inl (G.2 0, 200, .inl (f))), (x2, .inl (G.2 0, 8, .inl (g)))]) [1, 2, 3] (by decide) rfl
  refine vp_callSi (va_Run.run (va_runV (As := [.int k, .int j]) (rest := []) ⟨hx, hb, hml, hown, hts⟩ (g_Ma_found l G _ h0 x1 x2 f g v1 v2 v3 v4 v5 oc k j) (cwV 2 hts (nn_gV mw_384 mw_381 mw_382 mw_383 mw_93) rfl rfl rfl (by decide +kernel) ⟨Nat.le_of_ble_eq_true rfl, Nat.le_of_ble_eq_true rfl⟩) (nn_preV (va_recv hK hP rfl (q0 := 1) rfl) hPc hDc hK hN) rfl rfl hl.1 rfl (lv_room (Nat.le_of_ble_eq_true rfl)) d_NP_variable_6 ⟨(Nat.le_of_ble_eq_true rfl), (Nat.le_of_ble_eq_true rfl)⟩)) (fun r1 er1 => ?_)
  exact W.iret (v := r1) hx hb hr (fun t ht hW => ⟨r1, rfl, trivial, ht⟩) (fun q h => by cases h) d_NP_variable_9

theorem mw_274 : (.fieldLink R_NP 27 R_NP "program" "LNestPascal$Code;" : Cond) ∈ nn_gw := nn_at 274 (by decide +kernel) (by decide +kernel)
theorem mw_314 : (.methodLink R_NP 61 y_Co_size : Cond) ∈ nn_gw := nn_at 314 (by decide +kernel) (by decide +kernel)
theorem mw_315 : (.instanceMethod y_Co_size : Cond) ∈ nn_gw := nn_at 315 (by decide +kernel) (by decide +kernel)
theorem mw_316 : (.selects R_Co y_Co_size y_Co_size : Cond) ∈ nn_gw := nn_at 316 (by decide +kernel) (by decide +kernel)
theorem mw_317 : (.code y_Co_size b_Co_size 1 (some .int) : Cond) ∈ nn_gw := nn_at 317 (by decide +kernel) (by decide +kernel)
theorem mw_318 : (.methodLink R_NP 71 y_Co_operation : Cond) ∈ nn_gw := nn_at 318 (by decide +kernel) (by decide +kernel)
theorem mw_326 : (.methodLink R_NP 75 y_Co_links : Cond) ∈ nn_gw := nn_at 326 (by decide +kernel) (by decide +kernel)
theorem mw_330 : (.methodLink R_NP 78 y_Co_operand : Cond) ∈ nn_gw := nn_at 330 (by decide +kernel) (by decide +kernel)
theorem d_NP_code_0 : decode b_NP_code 0 = .ok (.iload_n 1, 1) := by decide +kernel
theorem d_NP_code_1 : decode b_NP_code 1 = .ok (.iconst (-1), 1) := by decide +kernel
theorem d_NP_code_2 : decode b_NP_code 2 = .ok (.if_icmp .ne 11, 3) := by decide +kernel
theorem d_NP_code_5 : decode b_NP_code 5 = .ok (.aload_n 0, 1) := by decide +kernel
theorem d_NP_code_6 : decode b_NP_code 6 = .ok (.getfield 27, 3) := by decide +kernel
theorem d_NP_code_9 : decode b_NP_code 9 = .ok (.invokevirtual 61, 3) := by decide +kernel
theorem d_NP_code_12 : decode b_NP_code 12 = .ok (.ireturn, 1) := by decide +kernel
theorem d_NP_code_13 : decode b_NP_code 13 = .ok (.iload_n 2, 1) := by decide +kernel
theorem d_NP_code_14 : decode b_NP_code 14 = .ok (.tableswitch 53 0 2 #[26, 35, 44], 26) := by decide +kernel
theorem d_NP_code_40 : decode b_NP_code 40 = .ok (.aload_n 0, 1) := by decide +kernel
theorem d_NP_code_41 : decode b_NP_code 41 = .ok (.getfield 27, 3) := by decide +kernel
theorem d_NP_code_44 : decode b_NP_code 44 = .ok (.iload_n 1, 1) := by decide +kernel
theorem d_NP_code_45 : decode b_NP_code 45 = .ok (.invokevirtual 71, 3) := by decide +kernel
theorem d_NP_code_48 : decode b_NP_code 48 = .ok (.ireturn, 1) := by decide +kernel
theorem d_NP_code_49 : decode b_NP_code 49 = .ok (.aload_n 0, 1) := by decide +kernel
theorem d_NP_code_50 : decode b_NP_code 50 = .ok (.getfield 27, 3) := by decide +kernel
theorem d_NP_code_53 : decode b_NP_code 53 = .ok (.iload_n 1, 1) := by decide +kernel
theorem d_NP_code_54 : decode b_NP_code 54 = .ok (.invokevirtual 75, 3) := by decide +kernel
theorem d_NP_code_57 : decode b_NP_code 57 = .ok (.ireturn, 1) := by decide +kernel
theorem d_NP_code_58 : decode b_NP_code 58 = .ok (.aload_n 0, 1) := by decide +kernel
theorem d_NP_code_59 : decode b_NP_code 59 = .ok (.getfield 27, 3) := by decide +kernel
theorem d_NP_code_62 : decode b_NP_code 62 = .ok (.iload_n 1, 1) := by decide +kernel
theorem d_NP_code_63 : decode b_NP_code 63 = .ok (.invokevirtual 78, 3) := by decide +kernel
theorem d_NP_code_66 : decode b_NP_code 66 = .ok (.ireturn, 1) := by decide +kernel
theorem d_NP_code_67 : decode b_NP_code 67 = .ok (.iconst 0, 1) := by decide +kernel
theorem d_NP_code_68 : decode b_NP_code 68 = .ok (.ireturn, 1) := by decide +kernel

set_option maxHeartbeats 4000000 in
set_option maxRecDepth 100000 in
theorem g_NP_code (l : Launch) (G : nn_G) (sz : Nat) (h9 tx cm h1 h0 : Nat) (tn : Nat) (y1 y2 y3 : Nat) (f1 f2 f3 : Nat → Int32) (n : Nat) (k j : Int32) (hn : n ≤ 180) : Met l y_NP_code w_NP_code ({ frames := 2, cells := 0, slots := 0, locals := 42 }) (nn_P G [.ref h9, .int k, .int j] [(h9, .inr (0, [.ref tx, .int (nI tn), .ref cm, .ref h1, .ref h0])), (h1, .inr (1, [.ref y1, .ref y2, .ref y3, .int (nI n)])), (y1, .inl (G.2 0, 180, .inl (f1))), (y2, .inl (G.2 0, 180, .inl (f2))), (y3, .inl (G.2 0, 180, .inl (f3)))] sz) (vp_Si (fun r => True)) 0 0 (fun _ => False) := by
  refine Met.ofW (cc := b_NP_code) (maxL := 3) (ret := some .int) (by decide) rfl ?_
  intro p e s m args below meth c s₁ B hml hv
  obtain ⟨rfl, hsz, hP, hK, hD0, hN⟩ := hv
  have hx := B.exec
  have hb := B.bytes
  have hr := B.returns
  have hts := atoms_spec (ws := w_NP_code) B.pre
  have hg : ∀ w ∈ nn_gw, w.before _ s = true := fun w h => hts w (List.mem_cons_of_mem _ h)
  have hown : s.vm.findClass R_NP = some m.cls := findClass_of_methodNamed B.named
  have hlocks := B.notSynchronized
  subst hsz
  have hD := hD0
  generalize hAe : (fun _ : Nat => True) = A at hD
  have hA : ∀ q : Nat, s.heap.size ≤ q → A q := fun q h => by rw [← hAe]; trivial
  have hS : va_S A s.heap s.heap [] := va_S.rf
  have hP : va_P G.1 nn_cls [(h9, .inr (0, [.ref tx, .int (nI tn), .ref cm, .ref h1, .ref h0])), (h1, .inr (1, [.ref y1, .ref y2, .ref y3, .int (nI n)])), (y1, .inl (G.2 0, 180, .inl (f1))), (y2, .inl (G.2 0, 180, .inl (f2))), (y3, .inl (G.2 0, 180, .inl (f3)))] s.heap := hP
  have hl := lv_entry ([.ref h9, .int k, .int j]) (n := 3) (Nat.le_of_ble_eq_true rfl)
  rw [lg_entry_eq]
  generalize (lg_sl ([.ref h9, .int k, .int j]) ++ List.replicate (3 - (lg_sl ([.ref h9, .int k, .int j])).length) Slot.unset).toArray = ls at hl ⊢
  have hl : lv_has ls 3 [(0, .ref h9), (1, .int k), (2, .int j)] := hl
  refine lv_iload_n hx hb d_NP_code_0 rfl (lv_at hl 1 rfl) ?_
  refine lv_iconst (v := (-1)) hx hb d_NP_code_1 (by decide) ?_
  refine lv_icmp_ne (tgt := 13) hx hb d_NP_code_2 rfl (fun hc2 => ?_) (fun hc2 => ?_)
  · skip
    refine lv_iload_n hx hb d_NP_code_13 rfl (lv_at hl 2 rfl) ?_
    by_cases hk14_0 : j = 0
    · skip
      refine lv_tableIn (off := 26) (tgt := 40) hx hb d_NP_code_14 (by rw [hk14_0]; decide) (by rw [hk14_0]; decide) (by rw [hk14_0]; decide) rfl ?_
      refine lv_aload_n hx hb d_NP_code_40 rfl (lv_at hl 0 rfl) ?_
      refine va_get (D := G.1) (ci := 0) (v := .ref h1) (C := R_NP) (T := T_NP) (N := 5) hx hb hg in_NP hown hK hP 0 rfl rfl 3 (by decide) (hg _ mw_274) (fun _ h9 => h9) rfl d_NP_code_41 ?_
      refine lv_iload_n hx hb d_NP_code_44 rfl (lv_at hl 1 rfl) ?_
      have hPc := hP.sub (ws' := [(h1, .inr (1, [.ref y1, .ref y2, .ref y3, .int (nI n)])), (y1, .inl (G.2 0, 180, .inl (f1))), (y2, .inl (G.2 0, 180, .inl (f2))), (y3, .inl (G.2 0, 180, .inl (f3)))]) [1, 2, 3, 4] rfl
      have hDc := hD.sub (ws' := [(h1, .inr (1, [.ref y1, .ref y2, .ref y3, .int (nI n)])), (y1, .inl (G.2 0, 180, .inl (f1))), (y2, .inl (G.2 0, 180, .inl (f2))), (y3, .inl (G.2 0, 180, .inl (f3)))]) [1, 2, 3, 4] (by decide) rfl
      refine vp_callSi (va_Run.run (va_runV (As := [.int k]) (rest := []) ⟨hx, hb, hml, hown, hts⟩ (g_Co_operation l G _ h1 y1 y2 y3 f1 f2 f3 n k hn) (cwV 1 hts (nn_gV mw_321 mw_318 mw_319 mw_320 mw_92) rfl rfl rfl (by decide +kernel) ⟨Nat.le_of_ble_eq_true rfl, Nat.le_of_ble_eq_true rfl⟩) (nn_preV (va_recv hK hP rfl (q0 := 1) rfl) hPc hDc hK hN) rfl rfl hl.1 rfl (lv_room (Nat.le_of_ble_eq_true rfl)) d_NP_code_45 ⟨(Nat.le_of_ble_eq_true rfl), (Nat.le_of_ble_eq_true rfl)⟩)) (fun r1 er1 => ?_)
      exact W.iret (v := r1) hx hb hr (fun t ht hW => ⟨r1, rfl, trivial, ht⟩) (fun q h => by cases h) d_NP_code_48
    by_cases hk14_1 : j = 1
    · skip
      refine lv_tableIn (off := 35) (tgt := 49) hx hb d_NP_code_14 (by rw [hk14_1]; decide) (by rw [hk14_1]; decide) (by rw [hk14_1]; decide) rfl ?_
      refine lv_aload_n hx hb d_NP_code_49 rfl (lv_at hl 0 rfl) ?_
      refine va_get (D := G.1) (ci := 0) (v := .ref h1) (C := R_NP) (T := T_NP) (N := 5) hx hb hg in_NP hown hK hP 0 rfl rfl 3 (by decide) (hg _ mw_274) (fun _ h9 => h9) rfl d_NP_code_50 ?_
      refine lv_iload_n hx hb d_NP_code_53 rfl (lv_at hl 1 rfl) ?_
      have hPc := hP.sub (ws' := [(h1, .inr (1, [.ref y1, .ref y2, .ref y3, .int (nI n)])), (y1, .inl (G.2 0, 180, .inl (f1))), (y2, .inl (G.2 0, 180, .inl (f2))), (y3, .inl (G.2 0, 180, .inl (f3)))]) [1, 2, 3, 4] rfl
      have hDc := hD.sub (ws' := [(h1, .inr (1, [.ref y1, .ref y2, .ref y3, .int (nI n)])), (y1, .inl (G.2 0, 180, .inl (f1))), (y2, .inl (G.2 0, 180, .inl (f2))), (y3, .inl (G.2 0, 180, .inl (f3)))]) [1, 2, 3, 4] (by decide) rfl
      refine vp_callSi (va_Run.run (va_runV (As := [.int k]) (rest := []) ⟨hx, hb, hml, hown, hts⟩ (g_Co_links l G _ h1 y1 y2 y3 f1 f2 f3 n k hn) (cwV 1 hts (nn_gV mw_329 mw_326 mw_327 mw_328 mw_92) rfl rfl rfl (by decide +kernel) ⟨Nat.le_of_ble_eq_true rfl, Nat.le_of_ble_eq_true rfl⟩) (nn_preV (va_recv hK hP rfl (q0 := 1) rfl) hPc hDc hK hN) rfl rfl hl.1 rfl (lv_room (Nat.le_of_ble_eq_true rfl)) d_NP_code_54 ⟨(Nat.le_of_ble_eq_true rfl), (Nat.le_of_ble_eq_true rfl)⟩)) (fun r2 er2 => ?_)
      exact W.iret (v := r2) hx hb hr (fun t ht hW => ⟨r2, rfl, trivial, ht⟩) (fun q h => by cases h) d_NP_code_57
    by_cases hk14_2 : j = 2
    · skip
      refine lv_tableIn (off := 44) (tgt := 58) hx hb d_NP_code_14 (by rw [hk14_2]; decide) (by rw [hk14_2]; decide) (by rw [hk14_2]; decide) rfl ?_
      refine lv_aload_n hx hb d_NP_code_58 rfl (lv_at hl 0 rfl) ?_
      refine va_get (D := G.1) (ci := 0) (v := .ref h1) (C := R_NP) (T := T_NP) (N := 5) hx hb hg in_NP hown hK hP 0 rfl rfl 3 (by decide) (hg _ mw_274) (fun _ h9 => h9) rfl d_NP_code_59 ?_
      refine lv_iload_n hx hb d_NP_code_62 rfl (lv_at hl 1 rfl) ?_
      have hPc := hP.sub (ws' := [(h1, .inr (1, [.ref y1, .ref y2, .ref y3, .int (nI n)])), (y1, .inl (G.2 0, 180, .inl (f1))), (y2, .inl (G.2 0, 180, .inl (f2))), (y3, .inl (G.2 0, 180, .inl (f3)))]) [1, 2, 3, 4] rfl
      have hDc := hD.sub (ws' := [(h1, .inr (1, [.ref y1, .ref y2, .ref y3, .int (nI n)])), (y1, .inl (G.2 0, 180, .inl (f1))), (y2, .inl (G.2 0, 180, .inl (f2))), (y3, .inl (G.2 0, 180, .inl (f3)))]) [1, 2, 3, 4] (by decide) rfl
      refine vp_callSi (va_Run.run (va_runV (As := [.int k]) (rest := []) ⟨hx, hb, hml, hown, hts⟩ (g_Co_operand l G _ h1 y1 y2 y3 f1 f2 f3 n k hn) (cwV 1 hts (nn_gV mw_333 mw_330 mw_331 mw_332 mw_92) rfl rfl rfl (by decide +kernel) ⟨Nat.le_of_ble_eq_true rfl, Nat.le_of_ble_eq_true rfl⟩) (nn_preV (va_recv hK hP rfl (q0 := 1) rfl) hPc hDc hK hN) rfl rfl hl.1 rfl (lv_room (Nat.le_of_ble_eq_true rfl)) d_NP_code_63 ⟨(Nat.le_of_ble_eq_true rfl), (Nat.le_of_ble_eq_true rfl)⟩)) (fun r3 er3 => ?_)
      exact W.iret (v := r3) hx hb hr (fun t ht hW => ⟨r3, rfl, trivial, ht⟩) (fun q h => by cases h) d_NP_code_66
    refine lv_tableOut (tgt := 67) hx hb d_NP_code_14 (by have q0 := lv_neT hk14_0 (show (0 : Int32).toInt = 0 by decide); have q1 := lv_neT hk14_1 (show (1 : Int32).toInt = 1 by decide); have q2 := lv_neT hk14_2 (show (2 : Int32).toInt = 2 by decide); omega) rfl ?_
    refine lv_iconst (v := 0) hx hb d_NP_code_67 (by decide) ?_
    exact W.iret (v := 0) hx hb hr (fun t ht hW => ⟨0, rfl, trivial, ht⟩) (fun q h => by cases h) d_NP_code_68
  · skip
    refine lv_aload_n hx hb d_NP_code_5 rfl (lv_at hl 0 rfl) ?_
    refine va_get (D := G.1) (ci := 0) (v := .ref h1) (C := R_NP) (T := T_NP) (N := 5) hx hb hg in_NP hown hK hP 0 rfl rfl 3 (by decide) (hg _ mw_274) (fun _ h9 => h9) rfl d_NP_code_6 ?_
    have hPc := hP.sub (ws' := [(h1, .inr (1, [.ref y1, .ref y2, .ref y3, .int (nI n)])), (y1, .inl (G.2 0, 180, .inl (f1))), (y2, .inl (G.2 0, 180, .inl (f2))), (y3, .inl (G.2 0, 180, .inl (f3)))]) [1, 2, 3, 4] rfl
    have hDc := hD.sub (ws' := [(h1, .inr (1, [.ref y1, .ref y2, .ref y3, .int (nI n)])), (y1, .inl (G.2 0, 180, .inl (f1))), (y2, .inl (G.2 0, 180, .inl (f2))), (y3, .inl (G.2 0, 180, .inl (f3)))]) [1, 2, 3, 4] (by decide) rfl
    refine vp_callSi (va_Run.run (va_runV (As := []) (rest := []) ⟨hx, hb, hml, hown, hts⟩ (g_Co_size l G _ h1 y1 y2 y3 f1 f2 f3 n) (cwV 0 hts (nn_gV mw_317 mw_314 mw_315 mw_316 mw_92) rfl rfl rfl (by decide +kernel) ⟨Nat.le_of_ble_eq_true rfl, Nat.le_of_ble_eq_true rfl⟩) (nn_preV (va_recv hK hP rfl (q0 := 1) rfl) hPc hDc hK hN) rfl rfl hl.1 rfl (lv_room (Nat.le_of_ble_eq_true rfl)) d_NP_code_9 ⟨(Nat.le_of_ble_eq_true rfl), (Nat.le_of_ble_eq_true rfl)⟩)) (fun r4 er4 => ?_)
    subst er4
    exact W.iret (v := nI n) hx hb hr (fun t ht hW => ⟨nI n, rfl, trivial, ht⟩) (fun q h => by cases h) d_NP_code_12

theorem mw_223 : (.fieldLink R_Cm 36 R_Cm "fault" "I" : Cond) ∈ nn_gw := nn_at 223 (by decide +kernel) (by decide +kernel)
theorem d_Cm_fault_0 : decode b_Cm_fault 0 = .ok (.aload_n 0, 1) := by decide +kernel
theorem d_Cm_fault_1 : decode b_Cm_fault 1 = .ok (.getfield 36, 3) := by decide +kernel
theorem d_Cm_fault_4 : decode b_Cm_fault 4 = .ok (.ireturn, 1) := by decide +kernel

set_option maxHeartbeats 4000000 in
set_option maxRecDepth 100000 in
theorem g_Cm_fault (l : Launch) (G : nn_G) (sz : Nat) (cm ts ns md : Nat) (d1 d2 d3 : Int32) : Met l y_Cm_fault w_Cm_fault ({ frames := 0, cells := 0, slots := 0, locals := 0 }) (nn_P G [.ref cm] [(cm, .inr (2, [.ref ts, .ref ns, .ref md, .int d1, .int d2, .int d3]))] sz) (vp_Si (fun r => True)) 0 0 (fun _ => False) := by
  refine Met.ofW (cc := b_Cm_fault) (maxL := 1) (ret := some .int) (by decide) rfl ?_
  intro p e s m args below meth c s₁ B hml hv
  obtain ⟨rfl, hsz, hP, hK, hD0, hN⟩ := hv
  have hx := B.exec
  have hb := B.bytes
  have hr := B.returns
  have hts := atoms_spec (ws := w_Cm_fault) B.pre
  have hg : ∀ w ∈ nn_gw, w.before _ s = true := fun w h => hts w (List.mem_cons_of_mem _ h)
  have hown : s.vm.findClass R_Cm = some m.cls := findClass_of_methodNamed B.named
  have hlocks := B.notSynchronized
  subst hsz
  have hD := hD0
  generalize hAe : (fun _ : Nat => True) = A at hD
  have hA : ∀ q : Nat, s.heap.size ≤ q → A q := fun q h => by rw [← hAe]; trivial
  have hS : va_S A s.heap s.heap [] := va_S.rf
  have hP : va_P G.1 nn_cls [(cm, .inr (2, [.ref ts, .ref ns, .ref md, .int d1, .int d2, .int d3]))] s.heap := hP
  have hl := lv_entry ([.ref cm]) (n := 1) (Nat.le_of_ble_eq_true rfl)
  rw [lg_entry_eq]
  generalize (lg_sl ([.ref cm]) ++ List.replicate (1 - (lg_sl ([.ref cm])).length) Slot.unset).toArray = ls at hl ⊢
  have hl : lv_has ls 1 [(0, .ref cm)] := hl
  refine lv_aload_n hx hb d_Cm_fault_0 rfl (lv_at hl 0 rfl) ?_
  refine va_get (D := G.1) (ci := 2) (v := .int d2) (C := R_Cm) (T := T_Cm) (N := 6) hx hb hg in_Cm hown hK hP 0 rfl rfl 4 (by decide) (hg _ mw_223) (fun _ h9 => h9) rfl d_Cm_fault_1 ?_
  exact W.iret (v := d2) hx hb hr (fun t ht hW => ⟨d2, rfl, trivial, ht⟩) (fun q h => by cases h) d_Cm_fault_4

theorem mw_224 : (.fieldLink R_Cm 39 R_Cm "faultPlace" "I" : Cond) ∈ nn_gw := nn_at 224 (by decide +kernel) (by decide +kernel)
theorem d_Cm_faultPlace_0 : decode b_Cm_faultPlace 0 = .ok (.aload_n 0, 1) := by decide +kernel
theorem d_Cm_faultPlace_1 : decode b_Cm_faultPlace 1 = .ok (.getfield 39, 3) := by decide +kernel
theorem d_Cm_faultPlace_4 : decode b_Cm_faultPlace 4 = .ok (.ireturn, 1) := by decide +kernel

set_option maxHeartbeats 4000000 in
set_option maxRecDepth 100000 in
theorem g_Cm_faultPlace (l : Launch) (G : nn_G) (sz : Nat) (cm ts ns md : Nat) (d1 d2 d3 : Int32) : Met l y_Cm_faultPlace w_Cm_faultPlace ({ frames := 0, cells := 0, slots := 0, locals := 0 }) (nn_P G [.ref cm] [(cm, .inr (2, [.ref ts, .ref ns, .ref md, .int d1, .int d2, .int d3]))] sz) (vp_Si (fun r => True)) 0 0 (fun _ => False) := by
  refine Met.ofW (cc := b_Cm_faultPlace) (maxL := 1) (ret := some .int) (by decide) rfl ?_
  intro p e s m args below meth c s₁ B hml hv
  obtain ⟨rfl, hsz, hP, hK, hD0, hN⟩ := hv
  have hx := B.exec
  have hb := B.bytes
  have hr := B.returns
  have hts := atoms_spec (ws := w_Cm_faultPlace) B.pre
  have hg : ∀ w ∈ nn_gw, w.before _ s = true := fun w h => hts w (List.mem_cons_of_mem _ h)
  have hown : s.vm.findClass R_Cm = some m.cls := findClass_of_methodNamed B.named
  have hlocks := B.notSynchronized
  subst hsz
  have hD := hD0
  generalize hAe : (fun _ : Nat => True) = A at hD
  have hA : ∀ q : Nat, s.heap.size ≤ q → A q := fun q h => by rw [← hAe]; trivial
  have hS : va_S A s.heap s.heap [] := va_S.rf
  have hP : va_P G.1 nn_cls [(cm, .inr (2, [.ref ts, .ref ns, .ref md, .int d1, .int d2, .int d3]))] s.heap := hP
  have hl := lv_entry ([.ref cm]) (n := 1) (Nat.le_of_ble_eq_true rfl)
  rw [lg_entry_eq]
  generalize (lg_sl ([.ref cm]) ++ List.replicate (1 - (lg_sl ([.ref cm])).length) Slot.unset).toArray = ls at hl ⊢
  have hl : lv_has ls 1 [(0, .ref cm)] := hl
  refine lv_aload_n hx hb d_Cm_faultPlace_0 rfl (lv_at hl 0 rfl) ?_
  refine va_get (D := G.1) (ci := 2) (v := .int d3) (C := R_Cm) (T := T_Cm) (N := 6) hx hb hg in_Cm hown hK hP 0 rfl rfl 5 (by decide) (hg _ mw_224) (fun _ h9 => h9) rfl d_Cm_faultPlace_1 ?_
  exact W.iret (v := d3) hx hb hr (fun t ht hW => ⟨d3, rfl, trivial, ht⟩) (fun q h => by cases h) d_Cm_faultPlace_4

theorem mw_88 : (.initialized R_Cm : Cond) ∈ nn_gw := nn_at 88 (by decide +kernel) (by decide +kernel)
theorem mw_273 : (.fieldLink R_NP 20 R_NP "compiler" "LNestPascal$Compiler;" : Cond) ∈ nn_gw := nn_at 273 (by decide +kernel) (by decide +kernel)
theorem mw_302 : (.methodLink R_NP 65 y_Cm_fault : Cond) ∈ nn_gw := nn_at 302 (by decide +kernel) (by decide +kernel)
theorem mw_303 : (.instanceMethod y_Cm_fault : Cond) ∈ nn_gw := nn_at 303 (by decide +kernel) (by decide +kernel)
theorem mw_304 : (.selects R_Cm y_Cm_fault y_Cm_fault : Cond) ∈ nn_gw := nn_at 304 (by decide +kernel) (by decide +kernel)
theorem mw_305 : (.code y_Cm_fault b_Cm_fault 1 (some .int) : Cond) ∈ nn_gw := nn_at 305 (by decide +kernel) (by decide +kernel)
theorem mw_306 : (.methodLink R_NP 68 y_Cm_faultPlace : Cond) ∈ nn_gw := nn_at 306 (by decide +kernel) (by decide +kernel)
theorem mw_307 : (.instanceMethod y_Cm_faultPlace : Cond) ∈ nn_gw := nn_at 307 (by decide +kernel) (by decide +kernel)
theorem mw_308 : (.selects R_Cm y_Cm_faultPlace y_Cm_faultPlace : Cond) ∈ nn_gw := nn_at 308 (by decide +kernel) (by decide +kernel)
theorem mw_309 : (.code y_Cm_faultPlace b_Cm_faultPlace 1 (some .int) : Cond) ∈ nn_gw := nn_at 309 (by decide +kernel) (by decide +kernel)
theorem d_NP_error_0 : decode b_NP_error 0 = .ok (.iload_n 1, 1) := by decide +kernel
theorem d_NP_error_1 : decode b_NP_error 1 = .ok (.lookupswitch 43 #[(0, 27), (1, 35)], 27) := by decide +kernel
theorem d_NP_error_28 : decode b_NP_error 28 = .ok (.aload_n 0, 1) := by decide +kernel
theorem d_NP_error_29 : decode b_NP_error 29 = .ok (.getfield 20, 3) := by decide +kernel
theorem d_NP_error_32 : decode b_NP_error 32 = .ok (.invokevirtual 65, 3) := by decide +kernel
theorem d_NP_error_35 : decode b_NP_error 35 = .ok (.ireturn, 1) := by decide +kernel
theorem d_NP_error_36 : decode b_NP_error 36 = .ok (.aload_n 0, 1) := by decide +kernel
theorem d_NP_error_37 : decode b_NP_error 37 = .ok (.getfield 20, 3) := by decide +kernel
theorem d_NP_error_40 : decode b_NP_error 40 = .ok (.invokevirtual 68, 3) := by decide +kernel
theorem d_NP_error_43 : decode b_NP_error 43 = .ok (.ireturn, 1) := by decide +kernel
theorem d_NP_error_44 : decode b_NP_error 44 = .ok (.iconst (-1), 1) := by decide +kernel
theorem d_NP_error_45 : decode b_NP_error 45 = .ok (.ireturn, 1) := by decide +kernel

set_option maxHeartbeats 4000000 in
set_option maxRecDepth 100000 in
theorem g_NP_error (l : Launch) (G : nn_G) (sz : Nat) (h9 tx cm h1 h0 : Nat) (tn : Nat) (ts ns md : Nat) (d1 d2 d3 : Int32) (k : Int32) : Met l y_NP_error w_NP_error ({ frames := 1, cells := 0, slots := 0, locals := 20 }) (nn_P G [.ref h9, .int k] [(h9, .inr (0, [.ref tx, .int (nI tn), .ref cm, .ref h1, .ref h0])), (cm, .inr (2, [.ref ts, .ref ns, .ref md, .int d1, .int d2, .int d3]))] sz) (vp_Si (fun r => True)) 0 0 (fun _ => False) := by
  refine Met.ofW (cc := b_NP_error) (maxL := 2) (ret := some .int) (by decide) rfl ?_
  intro p e s m args below meth c s₁ B hml hv
  obtain ⟨rfl, hsz, hP, hK, hD0, hN⟩ := hv
  have hx := B.exec
  have hb := B.bytes
  have hr := B.returns
  have hts := atoms_spec (ws := w_NP_error) B.pre
  have hg : ∀ w ∈ nn_gw, w.before _ s = true := fun w h => hts w (List.mem_cons_of_mem _ h)
  have hown : s.vm.findClass R_NP = some m.cls := findClass_of_methodNamed B.named
  have hlocks := B.notSynchronized
  subst hsz
  have hD := hD0
  generalize hAe : (fun _ : Nat => True) = A at hD
  have hA : ∀ q : Nat, s.heap.size ≤ q → A q := fun q h => by rw [← hAe]; trivial
  have hS : va_S A s.heap s.heap [] := va_S.rf
  have hP : va_P G.1 nn_cls [(h9, .inr (0, [.ref tx, .int (nI tn), .ref cm, .ref h1, .ref h0])), (cm, .inr (2, [.ref ts, .ref ns, .ref md, .int d1, .int d2, .int d3]))] s.heap := hP
  have hl := lv_entry ([.ref h9, .int k]) (n := 2) (Nat.le_of_ble_eq_true rfl)
  rw [lg_entry_eq]
  generalize (lg_sl ([.ref h9, .int k]) ++ List.replicate (2 - (lg_sl ([.ref h9, .int k])).length) Slot.unset).toArray = ls at hl ⊢
  have hl : lv_has ls 2 [(0, .ref h9), (1, .int k)] := hl
  refine lv_iload_n hx hb d_NP_error_0 rfl (lv_at hl 1 rfl) ?_
  by_cases hk1_0 : k = 0
  · skip
    refine lv_lookup (off := 27) (tgt := 28) hx hb d_NP_error_1 (by decide) (by rw [hk1_0]; decide) rfl ?_
    refine lv_aload_n hx hb d_NP_error_28 rfl (lv_at hl 0 rfl) ?_
    refine va_get (D := G.1) (ci := 0) (v := .ref cm) (C := R_NP) (T := T_NP) (N := 5) hx hb hg in_NP hown hK hP 0 rfl rfl 2 (by decide) (hg _ mw_273) (fun _ h9 => h9) rfl d_NP_error_29 ?_
    have hPc := hP.sub (ws' := [(cm, .inr (2, [.ref ts, .ref ns, .ref md, .int d1, .int d2, .int d3]))]) [1] rfl
    have hDc := hD.sub (ws' := [(cm, .inr (2, [.ref ts, .ref ns, .ref md, .int d1, .int d2, .int d3]))]) [1] (by decide) rfl
    refine vp_callSi (va_Run.run (va_runV (As := []) (rest := []) ⟨hx, hb, hml, hown, hts⟩ (g_Cm_fault l G _ cm ts ns md d1 d2 d3) (cwV 0 hts (nn_gV mw_305 mw_302 mw_303 mw_304 mw_88) rfl rfl rfl (by decide +kernel) ⟨Nat.le_of_ble_eq_true rfl, Nat.le_of_ble_eq_true rfl⟩) (nn_preV (va_recv hK hP rfl (q0 := 1) rfl) hPc hDc hK hN) rfl rfl hl.1 rfl (lv_room (Nat.le_of_ble_eq_true rfl)) d_NP_error_32 ⟨(Nat.le_of_ble_eq_true rfl), (Nat.le_of_ble_eq_true rfl)⟩)) (fun r1 er1 => ?_)
    exact W.iret (v := r1) hx hb hr (fun t ht hW => ⟨r1, rfl, trivial, ht⟩) (fun q h => by cases h) d_NP_error_35
  by_cases hk1_1 : k = 1
  · skip
    refine lv_lookup (off := 35) (tgt := 36) hx hb d_NP_error_1 (by decide) (by rw [hk1_1]; decide) rfl ?_
    refine lv_aload_n hx hb d_NP_error_36 rfl (lv_at hl 0 rfl) ?_
    refine va_get (D := G.1) (ci := 0) (v := .ref cm) (C := R_NP) (T := T_NP) (N := 5) hx hb hg in_NP hown hK hP 0 rfl rfl 2 (by decide) (hg _ mw_273) (fun _ h9 => h9) rfl d_NP_error_37 ?_
    have hPc := hP.sub (ws' := [(cm, .inr (2, [.ref ts, .ref ns, .ref md, .int d1, .int d2, .int d3]))]) [1] rfl
    have hDc := hD.sub (ws' := [(cm, .inr (2, [.ref ts, .ref ns, .ref md, .int d1, .int d2, .int d3]))]) [1] (by decide) rfl
    refine vp_callSi (va_Run.run (va_runV (As := []) (rest := []) ⟨hx, hb, hml, hown, hts⟩ (g_Cm_faultPlace l G _ cm ts ns md d1 d2 d3) (cwV 0 hts (nn_gV mw_309 mw_306 mw_307 mw_308 mw_88) rfl rfl rfl (by decide +kernel) ⟨Nat.le_of_ble_eq_true rfl, Nat.le_of_ble_eq_true rfl⟩) (nn_preV (va_recv hK hP rfl (q0 := 1) rfl) hPc hDc hK hN) rfl rfl hl.1 rfl (lv_room (Nat.le_of_ble_eq_true rfl)) d_NP_error_40 ⟨(Nat.le_of_ble_eq_true rfl), (Nat.le_of_ble_eq_true rfl)⟩)) (fun r2 er2 => ?_)
    exact W.iret (v := r2) hx hb hr (fun t ht hW => ⟨r2, rfl, trivial, ht⟩) (fun q h => by cases h) d_NP_error_43
  refine lv_lookup (off := 43) (tgt := 44) hx hb d_NP_error_1 (by decide) (by (show Op.lookupswitch.offset (_ :: _) _ _ = _); rw [lv_osw hk1_0 (by decide)]; (show Op.lookupswitch.offset (_ :: _) _ _ = _); rw [lv_osw hk1_1 (by decide)]; rfl) rfl ?_
  refine lv_iconst (v := (-1)) hx hb d_NP_error_44 (by decide) ?_
  exact W.iret (v := (-1)) hx hb hr (fun t ht hW => ⟨(-1), rfl, trivial, ht⟩) (fun q h => by cases h) d_NP_error_45

theorem mw_338 : (.methodLink R_NP 81 y_Ma_begin : Cond) ∈ nn_gw := nn_at 338 (by decide +kernel) (by decide +kernel)
theorem mw_339 : (.instanceMethod y_Ma_begin : Cond) ∈ nn_gw := nn_at 339 (by decide +kernel) (by decide +kernel)
theorem mw_340 : (.selects R_Ma y_Ma_begin y_Ma_begin : Cond) ∈ nn_gw := nn_at 340 (by decide +kernel) (by decide +kernel)
theorem mw_341 : (.code y_Ma_begin b_Ma_begin 1 none : Cond) ∈ nn_gw := nn_at 341 (by decide +kernel) (by decide +kernel)
theorem d_NP_start_0 : decode b_NP_start 0 = .ok (.aload_n 0, 1) := by decide +kernel
theorem d_NP_start_1 : decode b_NP_start 1 = .ok (.getfield 27, 3) := by decide +kernel
theorem d_NP_start_4 : decode b_NP_start 4 = .ok (.invokevirtual 61, 3) := by decide +kernel
theorem d_NP_start_7 : decode b_NP_start 7 = .ok (.ifCond .ne 5, 3) := by decide +kernel
theorem d_NP_start_10 : decode b_NP_start 10 = .ok (.iconst 0, 1) := by decide +kernel
theorem d_NP_start_11 : decode b_NP_start 11 = .ok (.ireturn, 1) := by decide +kernel
theorem d_NP_start_12 : decode b_NP_start 12 = .ok (.aload_n 0, 1) := by decide +kernel
theorem d_NP_start_13 : decode b_NP_start 13 = .ok (.getfield 34, 3) := by decide +kernel
theorem d_NP_start_16 : decode b_NP_start 16 = .ok (.invokevirtual 81, 3) := by decide +kernel
theorem d_NP_start_19 : decode b_NP_start 19 = .ok (.iconst 1, 1) := by decide +kernel
theorem d_NP_start_20 : decode b_NP_start 20 = .ok (.ireturn, 1) := by decide +kernel

set_option maxHeartbeats 4000000 in
set_option maxRecDepth 100000 in
theorem g_NP_start (l : Launch) (G : nn_G) (sz : Nat) (h9 tx cm h1 h0 : Nat) (tn : Nat) (x1 x2 : Nat) (f g : Nat → Int32) (v1 v2 v3 v4 v5 : Int32) (oc : Nat) (y1 y2 y3 : Nat) (f1 f2 f3 : Nat → Int32) (n : Nat) : Met l y_NP_start w_NP_start ({ frames := 3, cells := 0, slots := 0, locals := 63 }) (nn_P G [.ref h9] [(h9, .inr (0, [.ref tx, .int (nI tn), .ref cm, .ref h1, .ref h0])), (h0, .inr (3, [.ref x1, .ref x2, .int v1, .int v2, .int v3, .int v4, .int v5, .int (nI oc)])), (x1, .inl (G.2 0, 200, .inl (f))), (x2, .inl (G.2 0, 8, .inl (g))), (h1, .inr (1, [.ref y1, .ref y2, .ref y3, .int (nI n)])), (y1, .inl (G.2 0, 180, .inl (f1))), (y2, .inl (G.2 0, 180, .inl (f2))), (y3, .inl (G.2 0, 180, .inl (f3)))] sz) (va_Qi (fun (r : Int32) (u : (Nat → Int32) × (Nat → Int32) × Int32 × Int32 × Int32 × Int32 × Int32 × Nat) => u.2.2.2.2.2.2.2 ≤ oc) (fun u t => va_P G.1 nn_cls [(h9, .inr (0, [.ref tx, .int (nI tn), .ref cm, .ref h1, .ref h0])), (h0, .inr (3, [.ref x1, .ref x2, .int u.2.2.1, .int u.2.2.2.1, .int u.2.2.2.2.1, .int u.2.2.2.2.2.1, .int u.2.2.2.2.2.2.1, .int (nI u.2.2.2.2.2.2.2)])), (x1, .inl (G.2 0, 200, .inl (u.1))), (x2, .inl (G.2 0, 8, .inl (u.2.1))), (h1, .inr (1, [.ref y1, .ref y2, .ref y3, .int (nI n)])), (y1, .inl (G.2 0, 180, .inl (f1))), (y2, .inl (G.2 0, 180, .inl (f2))), (y3, .inl (G.2 0, 180, .inl (f3)))] t.heap ∧ va_D (va_A [(h9, .inr (0, [.ref tx, .int (nI tn), .ref cm, .ref h1, .ref h0])), (h0, .inr (3, [.ref x1, .ref x2, .int v1, .int v2, .int v3, .int v4, .int v5, .int (nI oc)])), (x1, .inl (G.2 0, 200, .inl (f))), (x2, .inl (G.2 0, 8, .inl (g))), (h1, .inr (1, [.ref y1, .ref y2, .ref y3, .int (nI n)])), (y1, .inl (G.2 0, 180, .inl (f1))), (y2, .inl (G.2 0, 180, .inl (f2))), (y3, .inl (G.2 0, 180, .inl (f3)))] sz) [(h9, .inr (0, [.ref tx, .int (nI tn), .ref cm, .ref h1, .ref h0])), (h0, .inr (3, [.ref x1, .ref x2, .int u.2.2.1, .int u.2.2.2.1, .int u.2.2.2.2.1, .int u.2.2.2.2.2.1, .int u.2.2.2.2.2.2.1, .int (nI u.2.2.2.2.2.2.2)])), (x1, .inl (G.2 0, 200, .inl (u.1))), (x2, .inl (G.2 0, 8, .inl (u.2.1))), (h1, .inr (1, [.ref y1, .ref y2, .ref y3, .int (nI n)])), (y1, .inl (G.2 0, 180, .inl (f1))), (y2, .inl (G.2 0, 180, .inl (f2))), (y3, .inl (G.2 0, 180, .inl (f3)))]) (va_A [(h9, .inr (0, [.ref tx, .int (nI tn), .ref cm, .ref h1, .ref h0])), (h0, .inr (3, [.ref x1, .ref x2, .int v1, .int v2, .int v3, .int v4, .int v5, .int (nI oc)])), (x1, .inl (G.2 0, 200, .inl (f))), (x2, .inl (G.2 0, 8, .inl (g))), (h1, .inr (1, [.ref y1, .ref y2, .ref y3, .int (nI n)])), (y1, .inl (G.2 0, 180, .inl (f1))), (y2, .inl (G.2 0, 180, .inl (f2))), (y3, .inl (G.2 0, 180, .inl (f3)))] sz)) 0 0 (va_A [(h9, .inr (0, [.ref tx, .int (nI tn), .ref cm, .ref h1, .ref h0])), (h0, .inr (3, [.ref x1, .ref x2, .int v1, .int v2, .int v3, .int v4, .int v5, .int (nI oc)])), (x1, .inl (G.2 0, 200, .inl (f))), (x2, .inl (G.2 0, 8, .inl (g))), (h1, .inr (1, [.ref y1, .ref y2, .ref y3, .int (nI n)])), (y1, .inl (G.2 0, 180, .inl (f1))), (y2, .inl (G.2 0, 180, .inl (f2))), (y3, .inl (G.2 0, 180, .inl (f3)))] sz) := by
  refine Met.ofW (cc := b_NP_start) (maxL := 1) (ret := some .boolean) (by decide) rfl ?_
  intro p e s m args below meth c s₁ B hml hv
  obtain ⟨rfl, hsz, hP, hK, hD0, hN⟩ := hv
  have hx := B.exec
  have hb := B.bytes
  have hr := B.returns
  have hts := atoms_spec (ws := w_NP_start) B.pre
  have hg : ∀ w ∈ nn_gw, w.before _ s = true := fun w h => hts w (List.mem_cons_of_mem _ h)
  have hown : s.vm.findClass R_NP = some m.cls := findClass_of_methodNamed B.named
  have hlocks := B.notSynchronized
  subst hsz
  have hD := hD0.self (sz := s.heap.size)
  generalize hAe : va_A [(h9, .inr (0, [.ref tx, .int (nI tn), .ref cm, .ref h1, .ref h0])), (h0, .inr (3, [.ref x1, .ref x2, .int v1, .int v2, .int v3, .int v4, .int v5, .int (nI oc)])), (x1, .inl (G.2 0, 200, .inl (f))), (x2, .inl (G.2 0, 8, .inl (g))), (h1, .inr (1, [.ref y1, .ref y2, .ref y3, .int (nI n)])), (y1, .inl (G.2 0, 180, .inl (f1))), (y2, .inl (G.2 0, 180, .inl (f2))), (y3, .inl (G.2 0, 180, .inl (f3)))] s.heap.size = A at hD ⊢
  have hA : ∀ q : Nat, s.heap.size ≤ q → A q := fun q h => by rw [← hAe]; exact Or.inr h
  have hS : va_S A s.heap s.heap [] := va_S.rf
  have hP : va_P G.1 nn_cls [(h9, .inr (0, [.ref tx, .int (nI tn), .ref cm, .ref h1, .ref h0])), (h0, .inr (3, [.ref x1, .ref x2, .int v1, .int v2, .int v3, .int v4, .int v5, .int (nI oc)])), (x1, .inl (G.2 0, 200, .inl (f))), (x2, .inl (G.2 0, 8, .inl (g))), (h1, .inr (1, [.ref y1, .ref y2, .ref y3, .int (nI n)])), (y1, .inl (G.2 0, 180, .inl (f1))), (y2, .inl (G.2 0, 180, .inl (f2))), (y3, .inl (G.2 0, 180, .inl (f3)))] s.heap := hP
  have hl := lv_entry ([.ref h9]) (n := 1) (Nat.le_of_ble_eq_true rfl)
  rw [lg_entry_eq]
  generalize (lg_sl ([.ref h9]) ++ List.replicate (1 - (lg_sl ([.ref h9])).length) Slot.unset).toArray = ls at hl ⊢
  have hl : lv_has ls 1 [(0, .ref h9)] := hl
  refine lv_aload_n hx hb d_NP_start_0 rfl (lv_at hl 0 rfl) ?_
  refine va_get (D := G.1) (ci := 0) (v := .ref h1) (C := R_NP) (T := T_NP) (N := 5) hx hb hg in_NP hown hK hP 0 rfl rfl 3 (by decide) (hg _ mw_274) (fun _ h9 => h9) rfl d_NP_start_1 ?_
  have hPc := hP.sub (ws' := [(h1, .inr (1, [.ref y1, .ref y2, .ref y3, .int (nI n)])), (y1, .inl (G.2 0, 180, .inl (f1))), (y2, .inl (G.2 0, 180, .inl (f2))), (y3, .inl (G.2 0, 180, .inl (f3)))]) [4, 5, 6, 7] rfl
  have hDc := hD.sub (ws' := [(h1, .inr (1, [.ref y1, .ref y2, .ref y3, .int (nI n)])), (y1, .inl (G.2 0, 180, .inl (f1))), (y2, .inl (G.2 0, 180, .inl (f2))), (y3, .inl (G.2 0, 180, .inl (f3)))]) [4, 5, 6, 7] (by decide) rfl
  refine vp_callSi (va_Run.run (va_runV (As := []) (rest := []) ⟨hx, hb, hml, hown, hts⟩ (g_Co_size l G _ h1 y1 y2 y3 f1 f2 f3 n) (cwV 0 hts (nn_gV mw_317 mw_314 mw_315 mw_316 mw_92) rfl rfl rfl (by decide +kernel) ⟨Nat.le_of_ble_eq_true rfl, Nat.le_of_ble_eq_true rfl⟩) (nn_preV (va_recv hK hP rfl (q0 := 4) rfl) hPc hDc hK hN) rfl rfl hl.1 rfl (lv_room (Nat.le_of_ble_eq_true rfl)) d_NP_start_4 ⟨(Nat.le_of_ble_eq_true rfl), (Nat.le_of_ble_eq_true rfl)⟩)) (fun r1 er1 => ?_)
  subst er1
  refine lv_if_ne (tgt := 12) hx hb d_NP_start_7 rfl (fun hc7 => ?_) (fun hc7 => ?_)
  · skip
    refine lv_aload_n hx hb d_NP_start_12 rfl (lv_at hl 0 rfl) ?_
    refine va_get (D := G.1) (ci := 0) (v := .ref h0) (C := R_NP) (T := T_NP) (N := 5) hx hb hg in_NP hown hK hP 0 rfl rfl 4 (by decide) (hg _ mw_275) (fun _ h9 => h9) rfl d_NP_start_13 ?_
    have hPc := hP.sub (ws' := [(h0, .inr (3, [.ref x1, .ref x2, .int v1, .int v2, .int v3, .int v4, .int v5, .int (nI oc)])), (x1, .inl (G.2 0, 200, .inl (f))), (x2, .inl (G.2 0, 8, .inl (g)))]) [1, 2, 3] rfl
    have hDc := hD.sub (ws' := [(h0, .inr (3, [.ref x1, .ref x2, .int v1, .int v2, .int v3, .int v4, .int v5, .int (nI oc)])), (x1, .inl (G.2 0, 200, .inl (f))), (x2, .inl (G.2 0, 8, .inl (g)))]) [1, 2, 3] (by decide) rfl
    have hFc := va_free (wc := [(h0, .inr (3, [.ref x1, .ref x2, .int v1, .int v2, .int v3, .int v4, .int v5, .int (nI oc)])), (x1, .inl (G.2 0, 200, .inl (f))), (x2, .inl (G.2 0, 8, .inl (g)))]) hD hS hA [1, 2, 3] rfl
    refine va_callv (va_runV (As := []) (rest := []) ⟨hx, hb, hml, hown, hts⟩ (g_Ma_begin l G _ h0 x1 x2 f g v1 v2 v3 v4 v5 oc) (cwV 0 hts (nn_gV mw_341 mw_338 mw_339 mw_340 mw_93) rfl rfl rfl (by decide +kernel) ⟨Nat.le_of_ble_eq_true rfl, Nat.le_of_ble_eq_true rfl⟩) (nn_preV (va_recv hK hP rfl (q0 := 1) rfl) hPc hDc hK hN) rfl rfl hl.1 rfl (lv_room (Nat.le_of_ble_eq_true rfl)) d_NP_start_16 ⟨(Nat.le_of_ble_eq_true rfl), (Nat.le_of_ble_eq_true rfl)⟩) hS (fun q _ h => hFc q h) hFc (fun u2 t H locs ht hvm hw hB hz1 hk1 hS => ?_)
    obtain ⟨w3, w4, w5, w6, w7, w8, w9, w10⟩ := u2
    dsimp only at hB hw
    subst hw
    obtain ⟨hP1, hD1⟩ := hB
    rw [ht] at hP1
    obtain ⟨hP, hD⟩ := va_join (wr := [(h9, .inr (0, [.ref tx, .int (nI tn), .ref cm, .ref h1, .ref h0])), (h1, .inr (1, [.ref y1, .ref y2, .ref y3, .int (nI n)])), (y1, .inl (G.2 0, 180, .inl (f1))), (y2, .inl (G.2 0, 180, .inl (f2))), (y3, .inl (G.2 0, 180, .inl (f3)))]) (w1 := [(h0, .inr (3, [.ref x1, .ref x2, .int w5, .int w6, .int w7, .int w8, .int w9, .int (nI 0)])), (x1, .inl (G.2 0, 200, .inl (w3))), (x2, .inl (G.2 0, 8, .inl (w4)))]) hP hD [1, 2, 3] [0, 4, 5, 6, 7] rfl rfl (by decide) (by decide) hk1 hFc hP1 hD1
    have hP : va_P G.1 nn_cls [(h9, .inr (0, [.ref tx, .int (nI tn), .ref cm, .ref h1, .ref h0])), (h1, .inr (1, [.ref y1, .ref y2, .ref y3, .int (nI n)])), (y1, .inl (G.2 0, 180, .inl (f1))), (y2, .inl (G.2 0, 180, .inl (f2))), (y3, .inl (G.2 0, 180, .inl (f3))), (h0, .inr (3, [.ref x1, .ref x2, .int w5, .int w6, .int w7, .int w8, .int w9, .int (nI 0)])), (x1, .inl (G.2 0, 200, .inl (w3))), (x2, .inl (G.2 0, 8, .inl (w4)))] H := hP
    have hD : va_D A [(h9, .inr (0, [.ref tx, .int (nI tn), .ref cm, .ref h1, .ref h0])), (h1, .inr (1, [.ref y1, .ref y2, .ref y3, .int (nI n)])), (y1, .inl (G.2 0, 180, .inl (f1))), (y2, .inl (G.2 0, 180, .inl (f2))), (y3, .inl (G.2 0, 180, .inl (f3))), (h0, .inr (3, [.ref x1, .ref x2, .int w5, .int w6, .int w7, .int w8, .int w9, .int (nI 0)])), (x1, .inl (G.2 0, 200, .inl (w3))), (x2, .inl (G.2 0, 8, .inl (w4)))] := hD
    refine W.widen (k := 0) (n := 0) (Nat.le_of_ble_eq_true rfl) (Nat.le_of_ble_eq_true rfl) ?_
    refine lv_iconst (v := 1) hx hb d_NP_start_19 (by decide) ?_
    refine W.widen (k := 0) (n := 0) (Nat.le_of_ble_eq_true rfl) (Nat.le_of_ble_eq_true rfl) ?_
    have hP9 := hP.sub (ws' := [(h0, .inr (3, [.ref x1, .ref x2, .int w5, .int w6, .int w7, .int w8, .int w9, .int (nI 0)])), (x1, .inl (G.2 0, 200, .inl (w3))), (x2, .inl (G.2 0, 8, .inl (w4)))]) [5, 6, 7] rfl
    have hD9 := hD.sub (ws' := [(h0, .inr (3, [.ref x1, .ref x2, .int w5, .int w6, .int w7, .int w8, .int w9, .int (nI 0)])), (x1, .inl (G.2 0, 200, .inl (w3))), (x2, .inl (G.2 0, 8, .inl (w4)))]) [5, 6, 7] (by decide) rfl
    have hP9 := hP.sub (ws' := [(h9, .inr (0, [.ref tx, .int (nI tn), .ref cm, .ref h1, .ref h0])), (h0, .inr (3, [.ref x1, .ref x2, .int w5, .int w6, .int w7, .int w8, .int w9, .int (nI 0)])), (x1, .inl (G.2 0, 200, .inl (w3))), (x2, .inl (G.2 0, 8, .inl (w4))), (h1, .inr (1, [.ref y1, .ref y2, .ref y3, .int (nI n)])), (y1, .inl (G.2 0, 180, .inl (f1))), (y2, .inl (G.2 0, 180, .inl (f2))), (y3, .inl (G.2 0, 180, .inl (f3)))]) [0, 5, 6, 7, 1, 2, 3, 4] rfl
    have hD9 := hD.sub (ws' := [(h9, .inr (0, [.ref tx, .int (nI tn), .ref cm, .ref h1, .ref h0])), (h0, .inr (3, [.ref x1, .ref x2, .int w5, .int w6, .int w7, .int w8, .int w9, .int (nI 0)])), (x1, .inl (G.2 0, 200, .inl (w3))), (x2, .inl (G.2 0, 8, .inl (w4))), (h1, .inr (1, [.ref y1, .ref y2, .ref y3, .int (nI n)])), (y1, .inl (G.2 0, 180, .inl (f1))), (y2, .inl (G.2 0, 180, .inl (f2))), (y3, .inl (G.2 0, 180, .inl (f3)))]) [0, 5, 6, 7, 1, 2, 3, 4] (by decide) rfl
    exact W.zret (v := 1) hx hb hr rfl (fun t ht hW => ⟨⟨1, (w3, w4, w5, w6, w7, w8, w9, 0), rfl, (show 0 ≤ oc by omega), ⟨by rw [ht]; exact hP9, hD9⟩⟩, hS.F ht⟩) hS.2.2 d_NP_start_20
  · skip
    refine lv_iconst (v := 0) hx hb d_NP_start_10 (by decide) ?_
    refine W.widen (k := 0) (n := 0) (Nat.le_of_ble_eq_true rfl) (Nat.le_of_ble_eq_true rfl) ?_
    have hP9 := hP.sub (ws' := [(h0, .inr (3, [.ref x1, .ref x2, .int v1, .int v2, .int v3, .int v4, .int v5, .int (nI oc)])), (x1, .inl (G.2 0, 200, .inl (f))), (x2, .inl (G.2 0, 8, .inl (g)))]) [1, 2, 3] rfl
    have hD9 := hD.sub (ws' := [(h0, .inr (3, [.ref x1, .ref x2, .int v1, .int v2, .int v3, .int v4, .int v5, .int (nI oc)])), (x1, .inl (G.2 0, 200, .inl (f))), (x2, .inl (G.2 0, 8, .inl (g)))]) [1, 2, 3] (by decide) rfl
    have hP9 := hP.sub (ws' := [(h9, .inr (0, [.ref tx, .int (nI tn), .ref cm, .ref h1, .ref h0])), (h0, .inr (3, [.ref x1, .ref x2, .int v1, .int v2, .int v3, .int v4, .int v5, .int (nI oc)])), (x1, .inl (G.2 0, 200, .inl (f))), (x2, .inl (G.2 0, 8, .inl (g))), (h1, .inr (1, [.ref y1, .ref y2, .ref y3, .int (nI n)])), (y1, .inl (G.2 0, 180, .inl (f1))), (y2, .inl (G.2 0, 180, .inl (f2))), (y3, .inl (G.2 0, 180, .inl (f3)))]) [0, 1, 2, 3, 4, 5, 6, 7] rfl
    have hD9 := hD.sub (ws' := [(h9, .inr (0, [.ref tx, .int (nI tn), .ref cm, .ref h1, .ref h0])), (h0, .inr (3, [.ref x1, .ref x2, .int v1, .int v2, .int v3, .int v4, .int v5, .int (nI oc)])), (x1, .inl (G.2 0, 200, .inl (f))), (x2, .inl (G.2 0, 8, .inl (g))), (h1, .inr (1, [.ref y1, .ref y2, .ref y3, .int (nI n)])), (y1, .inl (G.2 0, 180, .inl (f1))), (y2, .inl (G.2 0, 180, .inl (f2))), (y3, .inl (G.2 0, 180, .inl (f3)))]) [0, 1, 2, 3, 4, 5, 6, 7] (by decide) rfl
    exact W.zret (v := 0) hx hb hr rfl (fun t ht hW => ⟨⟨0, (f, g, v1, v2, v3, v4, v5, oc), rfl, (show oc ≤ oc by omega), ⟨by rw [ht]; exact hP9, hD9⟩⟩, hS.F ht⟩) hS.2.2 d_NP_start_11

theorem mw_826 : (.methodLink R_NP 87 y_Ma_isRunning : Cond) ∈ nn_gw := nn_at 826 (by decide +kernel) (by decide +kernel)
theorem mw_827 : (.instanceMethod y_Ma_isRunning : Cond) ∈ nn_gw := nn_at 827 (by decide +kernel) (by decide +kernel)
theorem mw_828 : (.selects R_Ma y_Ma_isRunning y_Ma_isRunning : Cond) ∈ nn_gw := nn_at 828 (by decide +kernel) (by decide +kernel)
theorem mw_829 : (.code y_Ma_isRunning b_Ma_isRunning 1 (some .boolean) : Cond) ∈ nn_gw := nn_at 829 (by decide +kernel) (by decide +kernel)
theorem mw_830 : (.methodLink R_NP 91 y_Ma_step : Cond) ∈ nn_gw := nn_at 830 (by decide +kernel) (by decide +kernel)
theorem mw_831 : (.instanceMethod y_Ma_step : Cond) ∈ nn_gw := nn_at 831 (by decide +kernel) (by decide +kernel)
theorem mw_832 : (.selects R_Ma y_Ma_step y_Ma_step : Cond) ∈ nn_gw := nn_at 832 (by decide +kernel) (by decide +kernel)
theorem mw_833 : (.code y_Ma_step b_Ma_step 6 none : Cond) ∈ nn_gw := nn_at 833 (by decide +kernel) (by decide +kernel)
theorem d_NP_run_0 : decode b_NP_run 0 = .ok (.iload_n 1, 1) := by decide +kernel
theorem d_NP_run_1 : decode b_NP_run 1 = .ok (.ifCond .lt 10, 3) := by decide +kernel
theorem d_NP_run_4 : decode b_NP_run 4 = .ok (.iload_n 1, 1) := by decide +kernel
theorem d_NP_run_5 : decode b_NP_run 5 = .ok (.sipush 200, 3) := by decide +kernel
theorem d_NP_run_8 : decode b_NP_run 8 = .ok (.if_icmp .le 11, 3) := by decide +kernel
theorem d_NP_run_19 : decode b_NP_run 19 = .ok (.iconst 0, 1) := by decide +kernel
theorem d_NP_run_20 : decode b_NP_run 20 = .ok (.istore_n 2, 1) := by decide +kernel
theorem d_NP_run_21 : decode b_NP_run 21 = .ok (.iload_n 2, 1) := by decide +kernel
theorem d_NP_run_22 : decode b_NP_run 22 = .ok (.iload_n 1, 1) := by decide +kernel
theorem d_NP_run_23 : decode b_NP_run 23 = .ok (.if_icmp .ge 30, 3) := by decide +kernel
theorem d_NP_run_26 : decode b_NP_run 26 = .ok (.aload_n 0, 1) := by decide +kernel
theorem d_NP_run_27 : decode b_NP_run 27 = .ok (.getfield 34, 3) := by decide +kernel
theorem d_NP_run_30 : decode b_NP_run 30 = .ok (.invokevirtual 87, 3) := by decide +kernel
theorem d_NP_run_33 : decode b_NP_run 33 = .ok (.ifCond .eq 20, 3) := by decide +kernel
theorem d_NP_run_36 : decode b_NP_run 36 = .ok (.aload_n 0, 1) := by decide +kernel
theorem d_NP_run_37 : decode b_NP_run 37 = .ok (.getfield 34, 3) := by decide +kernel
theorem d_NP_run_40 : decode b_NP_run 40 = .ok (.aload_n 0, 1) := by decide +kernel
theorem d_NP_run_41 : decode b_NP_run 41 = .ok (.getfield 27, 3) := by decide +kernel
theorem d_NP_run_44 : decode b_NP_run 44 = .ok (.invokevirtual 91, 3) := by decide +kernel
theorem d_NP_run_47 : decode b_NP_run 47 = .ok (.iinc 2 1, 3) := by decide +kernel
theorem d_NP_run_50 : decode b_NP_run 50 = .ok (.goto (-29), 3) := by decide +kernel
theorem d_NP_run_53 : decode b_NP_run 53 = .ok (.iload_n 2, 1) := by decide +kernel
theorem d_NP_run_54 : decode b_NP_run 54 = .ok (.ireturn, 1) := by decide +kernel

set_option maxHeartbeats 4000000 in
set_option maxRecDepth 100000 in
theorem g_NP_run (l : Launch) (G : nn_G) (sz : Nat) (h9 tx cm h1 h0 : Nat) (tn : Nat) (x1 x2 : Nat) (f g : Nat → Int32) (v1 v2 v3 v4 v5 : Int32) (oc : Nat) (y1 y2 y3 : Nat) (f1 f2 f3 : Nat → Int32) (n : Nat) (k : Int32) (hn0 : ¬ k < 0) (hn1 : k ≤ 200) (hoc : oc + 300 < 1000000) (hn : n ≤ 180) : Met l y_NP_run w_NP_run ({ frames := 5, cells := 0, slots := 0, locals := 115 }) (nn_P G [.ref h9, .int k] [(h9, .inr (0, [.ref tx, .int (nI tn), .ref cm, .ref h1, .ref h0])), (h0, .inr (3, [.ref x1, .ref x2, .int v1, .int v2, .int v3, .int v4, .int v5, .int (nI oc)])), (x1, .inl (G.2 0, 200, .inl (f))), (x2, .inl (G.2 0, 8, .inl (g))), (h1, .inr (1, [.ref y1, .ref y2, .ref y3, .int (nI n)])), (y1, .inl (G.2 0, 180, .inl (f1))), (y2, .inl (G.2 0, 180, .inl (f2))), (y3, .inl (G.2 0, 180, .inl (f3)))] sz) (va_Qi (fun (r : Int32) (u : (Nat → Int32) × (Nat → Int32) × Int32 × Int32 × Int32 × Int32 × Int32 × Nat) => u.2.2.2.2.2.2.2 ≤ oc + 200) (fun u t => va_P G.1 nn_cls [(h9, .inr (0, [.ref tx, .int (nI tn), .ref cm, .ref h1, .ref h0])), (h0, .inr (3, [.ref x1, .ref x2, .int u.2.2.1, .int u.2.2.2.1, .int u.2.2.2.2.1, .int u.2.2.2.2.2.1, .int u.2.2.2.2.2.2.1, .int (nI u.2.2.2.2.2.2.2)])), (x1, .inl (G.2 0, 200, .inl (u.1))), (x2, .inl (G.2 0, 8, .inl (u.2.1))), (h1, .inr (1, [.ref y1, .ref y2, .ref y3, .int (nI n)])), (y1, .inl (G.2 0, 180, .inl (f1))), (y2, .inl (G.2 0, 180, .inl (f2))), (y3, .inl (G.2 0, 180, .inl (f3)))] t.heap ∧ va_D (va_A [(h9, .inr (0, [.ref tx, .int (nI tn), .ref cm, .ref h1, .ref h0])), (h0, .inr (3, [.ref x1, .ref x2, .int v1, .int v2, .int v3, .int v4, .int v5, .int (nI oc)])), (x1, .inl (G.2 0, 200, .inl (f))), (x2, .inl (G.2 0, 8, .inl (g))), (h1, .inr (1, [.ref y1, .ref y2, .ref y3, .int (nI n)])), (y1, .inl (G.2 0, 180, .inl (f1))), (y2, .inl (G.2 0, 180, .inl (f2))), (y3, .inl (G.2 0, 180, .inl (f3)))] sz) [(h9, .inr (0, [.ref tx, .int (nI tn), .ref cm, .ref h1, .ref h0])), (h0, .inr (3, [.ref x1, .ref x2, .int u.2.2.1, .int u.2.2.2.1, .int u.2.2.2.2.1, .int u.2.2.2.2.2.1, .int u.2.2.2.2.2.2.1, .int (nI u.2.2.2.2.2.2.2)])), (x1, .inl (G.2 0, 200, .inl (u.1))), (x2, .inl (G.2 0, 8, .inl (u.2.1))), (h1, .inr (1, [.ref y1, .ref y2, .ref y3, .int (nI n)])), (y1, .inl (G.2 0, 180, .inl (f1))), (y2, .inl (G.2 0, 180, .inl (f2))), (y3, .inl (G.2 0, 180, .inl (f3)))]) (va_A [(h9, .inr (0, [.ref tx, .int (nI tn), .ref cm, .ref h1, .ref h0])), (h0, .inr (3, [.ref x1, .ref x2, .int v1, .int v2, .int v3, .int v4, .int v5, .int (nI oc)])), (x1, .inl (G.2 0, 200, .inl (f))), (x2, .inl (G.2 0, 8, .inl (g))), (h1, .inr (1, [.ref y1, .ref y2, .ref y3, .int (nI n)])), (y1, .inl (G.2 0, 180, .inl (f1))), (y2, .inl (G.2 0, 180, .inl (f2))), (y3, .inl (G.2 0, 180, .inl (f3)))] sz)) 0 0 (va_A [(h9, .inr (0, [.ref tx, .int (nI tn), .ref cm, .ref h1, .ref h0])), (h0, .inr (3, [.ref x1, .ref x2, .int v1, .int v2, .int v3, .int v4, .int v5, .int (nI oc)])), (x1, .inl (G.2 0, 200, .inl (f))), (x2, .inl (G.2 0, 8, .inl (g))), (h1, .inr (1, [.ref y1, .ref y2, .ref y3, .int (nI n)])), (y1, .inl (G.2 0, 180, .inl (f1))), (y2, .inl (G.2 0, 180, .inl (f2))), (y3, .inl (G.2 0, 180, .inl (f3)))] sz) := by
  refine Met.ofW (cc := b_NP_run) (maxL := 3) (ret := some .int) (by decide) rfl ?_
  intro p e s m args below meth c s₁ B hml hv
  obtain ⟨rfl, hsz, hP, hK, hD0, hN⟩ := hv
  have hx := B.exec
  have hb := B.bytes
  have hr := B.returns
  have hts := atoms_spec (ws := w_NP_run) B.pre
  have hg : ∀ w ∈ nn_gw, w.before _ s = true := fun w h => hts w (List.mem_cons_of_mem _ h)
  have hown : s.vm.findClass R_NP = some m.cls := findClass_of_methodNamed B.named
  have hlocks := B.notSynchronized
  subst hsz
  have hD := hD0.self (sz := s.heap.size)
  generalize hAe : va_A [(h9, .inr (0, [.ref tx, .int (nI tn), .ref cm, .ref h1, .ref h0])), (h0, .inr (3, [.ref x1, .ref x2, .int v1, .int v2, .int v3, .int v4, .int v5, .int (nI oc)])), (x1, .inl (G.2 0, 200, .inl (f))), (x2, .inl (G.2 0, 8, .inl (g))), (h1, .inr (1, [.ref y1, .ref y2, .ref y3, .int (nI n)])), (y1, .inl (G.2 0, 180, .inl (f1))), (y2, .inl (G.2 0, 180, .inl (f2))), (y3, .inl (G.2 0, 180, .inl (f3)))] s.heap.size = A at hD ⊢
  have hA : ∀ q : Nat, s.heap.size ≤ q → A q := fun q h => by rw [← hAe]; exact Or.inr h
  have hS : va_S A s.heap s.heap [] := va_S.rf
  have hP : va_P G.1 nn_cls [(h9, .inr (0, [.ref tx, .int (nI tn), .ref cm, .ref h1, .ref h0])), (h0, .inr (3, [.ref x1, .ref x2, .int v1, .int v2, .int v3, .int v4, .int v5, .int (nI oc)])), (x1, .inl (G.2 0, 200, .inl (f))), (x2, .inl (G.2 0, 8, .inl (g))), (h1, .inr (1, [.ref y1, .ref y2, .ref y3, .int (nI n)])), (y1, .inl (G.2 0, 180, .inl (f1))), (y2, .inl (G.2 0, 180, .inl (f2))), (y3, .inl (G.2 0, 180, .inl (f3)))] s.heap := hP
  have hl := lv_entry ([.ref h9, .int k]) (n := 3) (Nat.le_of_ble_eq_true rfl)
  rw [lg_entry_eq]
  generalize (lg_sl ([.ref h9, .int k]) ++ List.replicate (3 - (lg_sl ([.ref h9, .int k])).length) Slot.unset).toArray = ls at hl ⊢
  have hl : lv_has ls 3 [(0, .ref h9), (1, .int k)] := hl
  refine lv_iload_n hx hb d_NP_run_0 rfl (lv_at hl 1 rfl) ?_
  refine lv_if_lt (tgt := 11) hx hb d_NP_run_1 rfl (fun h => absurd h (hn0)) (fun _ => ?_)
  refine lv_iload_n hx hb d_NP_run_4 rfl (lv_at hl 1 rfl) ?_
  refine lv_sipush (v := 200) hx hb d_NP_run_5 (by decide) ?_
  refine lv_icmp_le (tgt := 19) hx hb d_NP_run_8 rfl (fun _ => ?_) (fun h => absurd (hn1) h)
  refine lv_iconst (v := 0) hx hb d_NP_run_19 (by decide) ?_
  refine lv_istore_n (lv' := [(2, .int 0), (0, .ref h9), (1, .int k)]) hx hb d_NP_run_20 rfl hl (by decide) rfl (fun ls hl => ?_)
  obtain ⟨mm, hmm, hk⟩ := nI_of2 (M := 200) (n := 200) (by decide) hn0 hn1
  have hl := lv_sub (l' := [(2, .int 0), (0, .ref h9), (1, .int k)]) hl [0, 1, 2] rfl
  have hP := hP.sub (ws' := [(h9, .inr (0, [.ref tx, .int (nI tn), .ref cm, .ref h1, .ref h0])), (h0, .inr (3, [.ref x1, .ref x2, .int v1, .int v2, .int v3, .int v4, .int v5, .int (nI oc)])), (x1, .inl (G.2 0, 200, .inl (f))), (x2, .inl (G.2 0, 8, .inl (g))), (h1, .inr (1, [.ref y1, .ref y2, .ref y3, .int (nI n)])), (y1, .inl (G.2 0, 180, .inl (f1))), (y2, .inl (G.2 0, 180, .inl (f2))), (y3, .inl (G.2 0, 180, .inl (f3)))]) [0, 1, 2, 3, 4, 5, 6, 7] rfl
  have hD := hD.sub (ws' := [(h9, .inr (0, [.ref tx, .int (nI tn), .ref cm, .ref h1, .ref h0])), (h0, .inr (3, [.ref x1, .ref x2, .int v1, .int v2, .int v3, .int v4, .int v5, .int (nI oc)])), (x1, .inl (G.2 0, 200, .inl (f))), (x2, .inl (G.2 0, 8, .inl (g))), (h1, .inr (1, [.ref y1, .ref y2, .ref y3, .int (nI n)])), (y1, .inl (G.2 0, 180, .inl (f1))), (y2, .inl (G.2 0, 180, .inl (f2))), (y3, .inl (G.2 0, 180, .inl (f3)))]) [0, 1, 2, 3, 4, 5, 6, 7] (by decide) rfl
  suffices loop : ∀ (j : Nat) (i : Nat) (e1 : Nat → Int32) (e2 : Nat → Int32) (b1 : Int32) (b2 : Int32) (b3 : Int32) (b4 : Int32) (b5 : Int32) (od : Nat) (ls : Array Slot) (H : Heap) (locs : List Loc), i + j = mm → od ≤ oc + i → lv_has ls 3 [(2, .int (nI i)), (0, .ref h9), (1, .int k)] → va_P G.1 nn_cls [(h9, .inr (0, [.ref tx, .int (nI tn), .ref cm, .ref h1, .ref h0])), (h0, .inr (3, [.ref x1, .ref x2, .int b1, .int b2, .int b3, .int b4, .int b5, .int (nI od)])), (x1, .inl (G.2 0, 200, .inl (e1))), (x2, .inl (G.2 0, 8, .inl (e2))), (h1, .inr (1, [.ref y1, .ref y2, .ref y3, .int (nI n)])), (y1, .inl (G.2 0, 180, .inl (f1))), (y2, .inl (G.2 0, 180, .inl (f2))), (y3, .inl (G.2 0, 180, .inl (f3)))] H → va_D A [(h9, .inr (0, [.ref tx, .int (nI tn), .ref cm, .ref h1, .ref h0])), (h0, .inr (3, [.ref x1, .ref x2, .int b1, .int b2, .int b3, .int b4, .int b5, .int (nI od)])), (x1, .inl (G.2 0, 200, .inl (e1))), (x2, .inl (G.2 0, 8, .inl (e2))), (h1, .inr (1, [.ref y1, .ref y2, .ref y3, .int (nI n)])), (y1, .inl (G.2 0, 180, .inl (f1))), (y2, .inl (G.2 0, 180, .inl (f2))), (y3, .inl (G.2 0, 180, .inl (f3)))] → va_S A s.heap H locs → W p l e (headSpec w_NP_run ({ frames := 5, cells := 0, slots := 0, locals := 115 })).room s m [.ref h9, .int k].toArray below meth c H locs 0 0 (MQ below (va_Qi (fun (r : Int32) (u : (Nat → Int32) × (Nat → Int32) × Int32 × Int32 × Int32 × Int32 × Int32 × Nat) => u.2.2.2.2.2.2.2 ≤ oc + 200) (fun u t => va_P G.1 nn_cls [(h9, .inr (0, [.ref tx, .int (nI tn), .ref cm, .ref h1, .ref h0])), (h0, .inr (3, [.ref x1, .ref x2, .int u.2.2.1, .int u.2.2.2.1, .int u.2.2.2.2.1, .int u.2.2.2.2.2.1, .int u.2.2.2.2.2.2.1, .int (nI u.2.2.2.2.2.2.2)])), (x1, .inl (G.2 0, 200, .inl (u.1))), (x2, .inl (G.2 0, 8, .inl (u.2.1))), (h1, .inr (1, [.ref y1, .ref y2, .ref y3, .int (nI n)])), (y1, .inl (G.2 0, 180, .inl (f1))), (y2, .inl (G.2 0, 180, .inl (f2))), (y3, .inl (G.2 0, 180, .inl (f3)))] t.heap ∧ va_D A [(h9, .inr (0, [.ref tx, .int (nI tn), .ref cm, .ref h1, .ref h0])), (h0, .inr (3, [.ref x1, .ref x2, .int u.2.2.1, .int u.2.2.2.1, .int u.2.2.2.2.1, .int u.2.2.2.2.2.1, .int u.2.2.2.2.2.2.1, .int (nI u.2.2.2.2.2.2.2)])), (x1, .inl (G.2 0, 200, .inl (u.1))), (x2, .inl (G.2 0, 8, .inl (u.2.1))), (h1, .inr (1, [.ref y1, .ref y2, .ref y3, .int (nI n)])), (y1, .inl (G.2 0, 180, .inl (f1))), (y2, .inl (G.2 0, 180, .inl (f2))), (y3, .inl (G.2 0, 180, .inl (f3)))]) A) [.ref h9, .int k].toArray s 0 0 A) (F0 m 21 ls []) by
    exact loop mm 0 f g v1 v2 v3 v4 v5 oc ls _ _ (by omega) (by omega) hl hP hD hS
  intro j
  induction j with
  | zero =>
    intro i e1 e2 b1 b2 b3 b4 b5 od ls H locs hi ho hl hP hD hS
    refine lv_iload_n hx hb d_NP_run_21 rfl (lv_at hl 0 rfl) ?_
    refine lv_iload_n hx hb d_NP_run_22 rfl (lv_at hl 2 rfl) ?_
    refine lv_icmp_ge (tgt := 53) hx hb d_NP_run_23 rfl (fun _ => ?_) (fun h => absurd (by rw [hk]; exact nI_le (by omega) (by omega)) h)
    refine lv_iload_n hx hb d_NP_run_53 rfl (lv_at hl 0 rfl) ?_
    refine W.widen (k := 0) (n := 0) (Nat.le_of_ble_eq_true rfl) (Nat.le_of_ble_eq_true rfl) ?_
    have hP9 := hP.sub (ws' := [(h0, .inr (3, [.ref x1, .ref x2, .int b1, .int b2, .int b3, .int b4, .int b5, .int (nI od)])), (x1, .inl (G.2 0, 200, .inl (e1))), (x2, .inl (G.2 0, 8, .inl (e2)))]) [1, 2, 3] rfl
    have hD9 := hD.sub (ws' := [(h0, .inr (3, [.ref x1, .ref x2, .int b1, .int b2, .int b3, .int b4, .int b5, .int (nI od)])), (x1, .inl (G.2 0, 200, .inl (e1))), (x2, .inl (G.2 0, 8, .inl (e2)))]) [1, 2, 3] (by decide) rfl
    have hP9 := hP.sub (ws' := [(h9, .inr (0, [.ref tx, .int (nI tn), .ref cm, .ref h1, .ref h0])), (h0, .inr (3, [.ref x1, .ref x2, .int b1, .int b2, .int b3, .int b4, .int b5, .int (nI od)])), (x1, .inl (G.2 0, 200, .inl (e1))), (x2, .inl (G.2 0, 8, .inl (e2))), (h1, .inr (1, [.ref y1, .ref y2, .ref y3, .int (nI n)])), (y1, .inl (G.2 0, 180, .inl (f1))), (y2, .inl (G.2 0, 180, .inl (f2))), (y3, .inl (G.2 0, 180, .inl (f3)))]) [0, 1, 2, 3, 4, 5, 6, 7] rfl
    have hD9 := hD.sub (ws' := [(h9, .inr (0, [.ref tx, .int (nI tn), .ref cm, .ref h1, .ref h0])), (h0, .inr (3, [.ref x1, .ref x2, .int b1, .int b2, .int b3, .int b4, .int b5, .int (nI od)])), (x1, .inl (G.2 0, 200, .inl (e1))), (x2, .inl (G.2 0, 8, .inl (e2))), (h1, .inr (1, [.ref y1, .ref y2, .ref y3, .int (nI n)])), (y1, .inl (G.2 0, 180, .inl (f1))), (y2, .inl (G.2 0, 180, .inl (f2))), (y3, .inl (G.2 0, 180, .inl (f3)))]) [0, 1, 2, 3, 4, 5, 6, 7] (by decide) rfl
    exact W.iret (v := nI i) hx hb hr (fun t ht hW => ⟨⟨nI i, (e1, e2, b1, b2, b3, b4, b5, od), rfl, (show od ≤ oc + 200 by omega), ⟨by rw [ht]; exact hP9, hD9⟩⟩, hS.F ht⟩) hS.2.2 d_NP_run_54
  | succ j ih =>
    intro i e1 e2 b1 b2 b3 b4 b5 od ls H locs hi ho hl hP hD hS
    refine lv_iload_n hx hb d_NP_run_21 rfl (lv_at hl 0 rfl) ?_
    refine lv_iload_n hx hb d_NP_run_22 rfl (lv_at hl 2 rfl) ?_
    refine lv_icmp_ge (tgt := 53) hx hb d_NP_run_23 rfl (fun h => absurd h (by rw [hk]; exact nI_ge (by omega) (by omega))) (fun _ => ?_)
    refine lv_aload_n hx hb d_NP_run_26 rfl (lv_at hl 1 rfl) ?_
    refine va_get (D := G.1) (ci := 0) (v := .ref h0) (C := R_NP) (T := T_NP) (N := 5) hx hb hg in_NP hown hK hP 0 rfl rfl 4 (by decide) (hg _ mw_275) (fun _ h9 => h9) rfl d_NP_run_27 ?_
    have hPc := hP.sub (ws' := [(h0, .inr (3, [.ref x1, .ref x2, .int b1, .int b2, .int b3, .int b4, .int b5, .int (nI od)])), (x1, .inl (G.2 0, 200, .inl (e1))), (x2, .inl (G.2 0, 8, .inl (e2)))]) [1, 2, 3] rfl
    have hDc := hD.sub (ws' := [(h0, .inr (3, [.ref x1, .ref x2, .int b1, .int b2, .int b3, .int b4, .int b5, .int (nI od)])), (x1, .inl (G.2 0, 200, .inl (e1))), (x2, .inl (G.2 0, 8, .inl (e2)))]) [1, 2, 3] (by decide) rfl
    refine vp_callSi (va_Run.run (va_runV (As := []) (rest := []) ⟨hx, hb, hml, hown, hts⟩ (g_Ma_isRunning l G _ h0 x1 x2 e1 e2 b1 b2 b3 b4 b5 od) (cwV 0 hts (nn_gV mw_829 mw_826 mw_827 mw_828 mw_93) rfl rfl rfl (by decide +kernel) ⟨Nat.le_of_ble_eq_true rfl, Nat.le_of_ble_eq_true rfl⟩) (nn_preV (va_recv hK hP rfl (q0 := 1) rfl) hPc hDc hK hN) rfl rfl hl.1 rfl (lv_room (Nat.le_of_ble_eq_true rfl)) d_NP_run_30 ⟨(Nat.le_of_ble_eq_true rfl), (Nat.le_of_ble_eq_true rfl)⟩)) (fun r1 er1 => ?_)
    refine lv_if_eq (tgt := 53) hx hb d_NP_run_33 rfl (fun hc33 => ?_) (fun hc33 => ?_)
    · skip
      refine lv_iload_n hx hb d_NP_run_53 rfl (lv_at hl 0 rfl) ?_
      refine W.widen (k := 0) (n := 0) (Nat.le_of_ble_eq_true rfl) (Nat.le_of_ble_eq_true rfl) ?_
      have hP9 := hP.sub (ws' := [(h0, .inr (3, [.ref x1, .ref x2, .int b1, .int b2, .int b3, .int b4, .int b5, .int (nI od)])), (x1, .inl (G.2 0, 200, .inl (e1))), (x2, .inl (G.2 0, 8, .inl (e2)))]) [1, 2, 3] rfl
      have hD9 := hD.sub (ws' := [(h0, .inr (3, [.ref x1, .ref x2, .int b1, .int b2, .int b3, .int b4, .int b5, .int (nI od)])), (x1, .inl (G.2 0, 200, .inl (e1))), (x2, .inl (G.2 0, 8, .inl (e2)))]) [1, 2, 3] (by decide) rfl
      have hP9 := hP.sub (ws' := [(h9, .inr (0, [.ref tx, .int (nI tn), .ref cm, .ref h1, .ref h0])), (h0, .inr (3, [.ref x1, .ref x2, .int b1, .int b2, .int b3, .int b4, .int b5, .int (nI od)])), (x1, .inl (G.2 0, 200, .inl (e1))), (x2, .inl (G.2 0, 8, .inl (e2))), (h1, .inr (1, [.ref y1, .ref y2, .ref y3, .int (nI n)])), (y1, .inl (G.2 0, 180, .inl (f1))), (y2, .inl (G.2 0, 180, .inl (f2))), (y3, .inl (G.2 0, 180, .inl (f3)))]) [0, 1, 2, 3, 4, 5, 6, 7] rfl
      have hD9 := hD.sub (ws' := [(h9, .inr (0, [.ref tx, .int (nI tn), .ref cm, .ref h1, .ref h0])), (h0, .inr (3, [.ref x1, .ref x2, .int b1, .int b2, .int b3, .int b4, .int b5, .int (nI od)])), (x1, .inl (G.2 0, 200, .inl (e1))), (x2, .inl (G.2 0, 8, .inl (e2))), (h1, .inr (1, [.ref y1, .ref y2, .ref y3, .int (nI n)])), (y1, .inl (G.2 0, 180, .inl (f1))), (y2, .inl (G.2 0, 180, .inl (f2))), (y3, .inl (G.2 0, 180, .inl (f3)))]) [0, 1, 2, 3, 4, 5, 6, 7] (by decide) rfl
      exact W.iret (v := nI i) hx hb hr (fun t ht hW => ⟨⟨nI i, (e1, e2, b1, b2, b3, b4, b5, od), rfl, (show od ≤ oc + 200 by omega), ⟨by rw [ht]; exact hP9, hD9⟩⟩, hS.F ht⟩) hS.2.2 d_NP_run_54
    · skip
      refine lv_aload_n hx hb d_NP_run_36 rfl (lv_at hl 1 rfl) ?_
      refine va_get (D := G.1) (ci := 0) (v := .ref h0) (C := R_NP) (T := T_NP) (N := 5) hx hb hg in_NP hown hK hP 0 rfl rfl 4 (by decide) (hg _ mw_275) (fun _ h9 => h9) rfl d_NP_run_37 ?_
      refine lv_aload_n hx hb d_NP_run_40 rfl (lv_at hl 1 rfl) ?_
      refine va_get (D := G.1) (ci := 0) (v := .ref h1) (C := R_NP) (T := T_NP) (N := 5) hx hb hg in_NP hown hK hP 0 rfl rfl 3 (by decide) (hg _ mw_274) (fun _ h9 => h9) rfl d_NP_run_41 ?_
      have hPc := hP.sub (ws' := [(h0, .inr (3, [.ref x1, .ref x2, .int b1, .int b2, .int b3, .int b4, .int b5, .int (nI od)])), (x1, .inl (G.2 0, 200, .inl (e1))), (x2, .inl (G.2 0, 8, .inl (e2))), (h1, .inr (1, [.ref y1, .ref y2, .ref y3, .int (nI n)])), (y1, .inl (G.2 0, 180, .inl (f1))), (y2, .inl (G.2 0, 180, .inl (f2))), (y3, .inl (G.2 0, 180, .inl (f3)))]) [1, 2, 3, 4, 5, 6, 7] rfl
      have hDc := hD.sub (ws' := [(h0, .inr (3, [.ref x1, .ref x2, .int b1, .int b2, .int b3, .int b4, .int b5, .int (nI od)])), (x1, .inl (G.2 0, 200, .inl (e1))), (x2, .inl (G.2 0, 8, .inl (e2))), (h1, .inr (1, [.ref y1, .ref y2, .ref y3, .int (nI n)])), (y1, .inl (G.2 0, 180, .inl (f1))), (y2, .inl (G.2 0, 180, .inl (f2))), (y3, .inl (G.2 0, 180, .inl (f3)))]) [1, 2, 3, 4, 5, 6, 7] (by decide) rfl
      have hFc := va_free (wc := [(h0, .inr (3, [.ref x1, .ref x2, .int b1, .int b2, .int b3, .int b4, .int b5, .int (nI od)])), (x1, .inl (G.2 0, 200, .inl (e1))), (x2, .inl (G.2 0, 8, .inl (e2))), (h1, .inr (1, [.ref y1, .ref y2, .ref y3, .int (nI n)])), (y1, .inl (G.2 0, 180, .inl (f1))), (y2, .inl (G.2 0, 180, .inl (f2))), (y3, .inl (G.2 0, 180, .inl (f3)))]) hD hS hA [1, 2, 3, 4, 5, 6, 7] rfl
      refine va_callv (va_runV (As := [.ref h1]) (rest := []) ⟨hx, hb, hml, hown, hts⟩ (g_Ma_step l G _ h0 x1 x2 e1 e2 b1 b2 b3 b4 b5 od h1 y1 y2 y3 f1 f2 f3 n (by omega) hn) (cwV 1 hts (nn_gV mw_833 mw_830 mw_831 mw_832 mw_93) rfl rfl rfl (by decide +kernel) ⟨Nat.le_of_ble_eq_true rfl, Nat.le_of_ble_eq_true rfl⟩) (nn_preV (va_recv hK hP rfl (q0 := 1) rfl) hPc hDc hK hN) rfl rfl hl.1 rfl (lv_room (Nat.le_of_ble_eq_true rfl)) d_NP_run_44 ⟨(Nat.le_of_ble_eq_true rfl), (Nat.le_of_ble_eq_true rfl)⟩) hS (fun q _ h => hFc q h) hFc (fun u2 t H locs ht hvm hw hB hz1 hk1 hS => ?_)
      obtain ⟨w3, w4, w5, w6, w7, w8, w9, w10⟩ := u2
      dsimp only at hB hw
      have hqw10 := hw
      obtain ⟨hP1, hD1⟩ := hB
      rw [ht] at hP1
      obtain ⟨hP, hD⟩ := va_join (wr := [(h9, .inr (0, [.ref tx, .int (nI tn), .ref cm, .ref h1, .ref h0]))]) (w1 := [(h0, .inr (3, [.ref x1, .ref x2, .int w5, .int w6, .int w7, .int w8, .int w9, .int (nI w10)])), (x1, .inl (G.2 0, 200, .inl (w3))), (x2, .inl (G.2 0, 8, .inl (w4))), (h1, .inr (1, [.ref y1, .ref y2, .ref y3, .int (nI n)])), (y1, .inl (G.2 0, 180, .inl (f1))), (y2, .inl (G.2 0, 180, .inl (f2))), (y3, .inl (G.2 0, 180, .inl (f3)))]) hP hD [1, 2, 3, 4, 5, 6, 7] [0] rfl rfl (by decide) (by decide) hk1 hFc hP1 hD1
      have hP : va_P G.1 nn_cls [(h9, .inr (0, [.ref tx, .int (nI tn), .ref cm, .ref h1, .ref h0])), (h0, .inr (3, [.ref x1, .ref x2, .int w5, .int w6, .int w7, .int w8, .int w9, .int (nI w10)])), (x1, .inl (G.2 0, 200, .inl (w3))), (x2, .inl (G.2 0, 8, .inl (w4))), (h1, .inr (1, [.ref y1, .ref y2, .ref y3, .int (nI n)])), (y1, .inl (G.2 0, 180, .inl (f1))), (y2, .inl (G.2 0, 180, .inl (f2))), (y3, .inl (G.2 0, 180, .inl (f3)))] H := hP
      have hD : va_D A [(h9, .inr (0, [.ref tx, .int (nI tn), .ref cm, .ref h1, .ref h0])), (h0, .inr (3, [.ref x1, .ref x2, .int w5, .int w6, .int w7, .int w8, .int w9, .int (nI w10)])), (x1, .inl (G.2 0, 200, .inl (w3))), (x2, .inl (G.2 0, 8, .inl (w4))), (h1, .inr (1, [.ref y1, .ref y2, .ref y3, .int (nI n)])), (y1, .inl (G.2 0, 180, .inl (f1))), (y2, .inl (G.2 0, 180, .inl (f2))), (y3, .inl (G.2 0, 180, .inl (f3)))] := hD
      refine W.widen (k := 0) (n := 0) (Nat.le_of_ble_eq_true rfl) (Nat.le_of_ble_eq_true rfl) ?_
      refine lv_iinc (k := 0) (v := nI (i + 1)) (lv' := [(2, .int (nI (i + 1))), (0, .ref h9), (1, .int k)]) hx hb d_NP_run_47 hl rfl ((nI_succ i).symm) (by decide) rfl (fun ls hl => ?_)
      refine lv_goto (tgt := 21) hx hb d_NP_run_50 rfl ?_
      have hl := lv_sub (l' := [(2, .int (nI (i + 1))), (0, .ref h9), (1, .int k)]) hl [0, 1, 2] rfl
      have hP := hP.sub (ws' := [(h9, .inr (0, [.ref tx, .int (nI tn), .ref cm, .ref h1, .ref h0])), (h0, .inr (3, [.ref x1, .ref x2, .int w5, .int w6, .int w7, .int w8, .int w9, .int (nI w10)])), (x1, .inl (G.2 0, 200, .inl (w3))), (x2, .inl (G.2 0, 8, .inl (w4))), (h1, .inr (1, [.ref y1, .ref y2, .ref y3, .int (nI n)])), (y1, .inl (G.2 0, 180, .inl (f1))), (y2, .inl (G.2 0, 180, .inl (f2))), (y3, .inl (G.2 0, 180, .inl (f3)))]) [0, 1, 2, 3, 4, 5, 6, 7] rfl
      have hD := hD.sub (ws' := [(h9, .inr (0, [.ref tx, .int (nI tn), .ref cm, .ref h1, .ref h0])), (h0, .inr (3, [.ref x1, .ref x2, .int w5, .int w6, .int w7, .int w8, .int w9, .int (nI w10)])), (x1, .inl (G.2 0, 200, .inl (w3))), (x2, .inl (G.2 0, 8, .inl (w4))), (h1, .inr (1, [.ref y1, .ref y2, .ref y3, .int (nI n)])), (y1, .inl (G.2 0, 180, .inl (f1))), (y2, .inl (G.2 0, 180, .inl (f2))), (y3, .inl (G.2 0, 180, .inl (f3)))]) [0, 1, 2, 3, 4, 5, 6, 7] (by decide) rfl
      exact ih (i + 1) w3 w4 w5 w6 w7 w8 w9 w10 ls H locs (by omega) (by omega) hl hP hD hS
