/-! contracts (by wip/p1/gen.py) -/
theorem nb_mono {x : Int32} {n m : Nat} (h : vp_in x n) (hn : n ≤ m) : vp_in x m := fun q => h (q.elim Or.inl (fun z => Or.inr (Nat.le_trans hn z)))

theorem nb_ltI {a b : Nat} (h : nI a < nI b) (ha : a < 2 ^ 31) (hb : b < 2 ^ 31) : a < b := (nI_ltI ha hb).mp h

theorem mw_209 : (.fieldLink R_Co 21 R_Co "size" "I" : Cond) ∈ nn_gw := nn_at 209 (by decide +kernel) (by decide +kernel)
theorem d_Co_isOne_0 : decode b_Co_isOne 0 = .ok (.iload_n 1, 1) := by decide +kernel
theorem d_Co_isOne_1 : decode b_Co_isOne 1 = .ok (.ifCond .lt 15, 3) := by decide +kernel
theorem d_Co_isOne_4 : decode b_Co_isOne 4 = .ok (.iload_n 1, 1) := by decide +kernel
theorem d_Co_isOne_5 : decode b_Co_isOne 5 = .ok (.aload_n 0, 1) := by decide +kernel
theorem d_Co_isOne_6 : decode b_Co_isOne 6 = .ok (.getfield 21, 3) := by decide +kernel
theorem d_Co_isOne_9 : decode b_Co_isOne 9 = .ok (.if_icmp .ge 7, 3) := by decide +kernel
theorem d_Co_isOne_12 : decode b_Co_isOne 12 = .ok (.iconst 1, 1) := by decide +kernel
theorem d_Co_isOne_13 : decode b_Co_isOne 13 = .ok (.goto 4, 3) := by decide +kernel
theorem d_Co_isOne_16 : decode b_Co_isOne 16 = .ok (.iconst 0, 1) := by decide +kernel
theorem d_Co_isOne_17 : decode b_Co_isOne 17 = .ok (.ireturn, 1) := by decide +kernel

set_option maxHeartbeats 4000000 in
set_option maxRecDepth 100000 in
theorem g_Co_isOne (l : Launch) (G : nn_G) (sz : Nat) (h1 y1 y2 y3 : Nat) (f1 f2 f3 : Nat → Int32) (n : Nat) (k : Int32) (hn : n ≤ 180) : Met l y_Co_isOne w_Co_isOne ({ frames := 0, cells := 0, slots := 0, locals := 0 }) (nn_P G [.ref h1, .int k] [(h1, .inr (1, [.ref y1, .ref y2, .ref y3, .int (nI n)])), (y1, .inl (G.2 0, 180, .inl (f1))), (y2, .inl (G.2 0, 180, .inl (f2))), (y3, .inl (G.2 0, 180, .inl (f3)))] sz) (vp_Si (fun r => r = 0 ∨ (r = 1 ∧ vp_in k n))) 0 0 (fun _ => False) := by
  refine Met.ofW (cc := b_Co_isOne) (maxL := 2) (ret := some .boolean) (by decide) rfl ?_
  intro p e s m args below meth c s₁ B hml hv
  obtain ⟨rfl, hsz, hP, hK, hD0, hN⟩ := hv
  have hx := B.exec
  have hb := B.bytes
  have hr := B.returns
  have hts := atoms_spec (ws := w_Co_isOne) B.pre
  have hg : ∀ w ∈ nn_gw, w.before _ s = true := fun w h => hts w (List.mem_cons_of_mem _ h)
  have hown : s.vm.findClass R_Co = some m.cls := findClass_of_methodNamed B.named
  have hlocks := B.notSynchronized
  subst hsz
  have hD := hD0
  generalize hAe : (fun _ : Nat => True) = A at hD
  have hA : ∀ q : Nat, s.heap.size ≤ q → A q := fun q h => by rw [← hAe]; trivial
  have hS : va_S A s.heap s.heap [] := va_S.rf
  have hP : va_P G.1 nn_cls [(h1, .inr (1, [.ref y1, .ref y2, .ref y3, .int (nI n)])), (y1, .inl (G.2 0, 180, .inl (f1))), (y2, .inl (G.2 0, 180, .inl (f2))), (y3, .inl (G.2 0, 180, .inl (f3)))] s.heap := hP
  have hl := lv_entry ([.ref h1, .int k]) (n := 2) (Nat.le_of_ble_eq_true rfl)
  rw [lg_entry_eq]
  generalize (lg_sl ([.ref h1, .int k]) ++ List.replicate (2 - (lg_sl ([.ref h1, .int k])).length) Slot.unset).toArray = ls at hl ⊢
  have hl : lv_has ls 2 [(0, .ref h1), (1, .int k)] := hl
  refine lv_iload_n hx hb d_Co_isOne_0 rfl (lv_at hl 1 rfl) ?_
  refine lv_if_lt (tgt := 16) hx hb d_Co_isOne_1 rfl (fun hc1 => ?_) (fun hc1 => ?_)
  · skip
    refine lv_iconst (v := 0) hx hb d_Co_isOne_16 (by decide) ?_
    exact W.zret (v := 0) hx hb hr rfl (fun t ht hW => ⟨0, rfl, Or.inl rfl, ht⟩) (fun q h => by cases h) d_Co_isOne_17
  · skip
    refine lv_iload_n hx hb d_Co_isOne_4 rfl (lv_at hl 1 rfl) ?_
    refine lv_aload_n hx hb d_Co_isOne_5 rfl (lv_at hl 0 rfl) ?_
    refine va_get (D := G.1) (ci := 1) (v := .int (nI n)) (C := R_Co) (T := T_Co) (N := 4) hx hb hg in_Co hown hK hP 0 rfl rfl 3 (by decide) (hg _ mw_209) (fun _ h9 => h9) rfl d_Co_isOne_6 ?_
    refine lv_icmp_ge (tgt := 16) hx hb d_Co_isOne_9 rfl (fun hc9 => ?_) (fun hc9 => ?_)
    · skip
      refine lv_iconst (v := 0) hx hb d_Co_isOne_16 (by decide) ?_
      exact W.zret (v := 0) hx hb hr rfl (fun t ht hW => ⟨0, rfl, Or.inl rfl, ht⟩) (fun q h => by cases h) d_Co_isOne_17
    · skip
      refine lv_iconst (v := 1) hx hb d_Co_isOne_12 (by decide) ?_
      refine lv_goto (tgt := 17) hx hb d_Co_isOne_13 rfl ?_
      exact W.zret (v := 1) hx hb hr rfl (fun t ht hW => ⟨1, rfl, Or.inr ⟨rfl, nb_inr hc1 hc9 (by omega)⟩, ht⟩) (fun q h => by cases h) d_Co_isOne_17

theorem mw_1 : (.selects R_Co y_Co_isOne y_Co_isOne : Cond) ∈ nn_gw := nn_at 1 (by decide +kernel) (by decide +kernel)
theorem mw_92 : (.initialized R_Co : Cond) ∈ nn_gw := nn_at 92 (by decide +kernel) (by decide +kernel)
theorem mw_206 : (.fieldLink R_Co 11 R_Co "operations" "[I" : Cond) ∈ nn_gw := nn_at 206 (by decide +kernel) (by decide +kernel)
theorem mw_322 : (.methodLink R_Co 25 y_Co_isOne : Cond) ∈ nn_gw := nn_at 322 (by decide +kernel) (by decide +kernel)
theorem mw_324 : (.instanceMethod y_Co_isOne : Cond) ∈ nn_gw := nn_at 324 (by decide +kernel) (by decide +kernel)
theorem mw_325 : (.code y_Co_isOne b_Co_isOne 2 (some .boolean) : Cond) ∈ nn_gw := nn_at 325 (by decide +kernel) (by decide +kernel)
theorem d_Co_operation_0 : decode b_Co_operation 0 = .ok (.aload_n 0, 1) := by decide +kernel
theorem d_Co_operation_1 : decode b_Co_operation 1 = .ok (.iload_n 1, 1) := by decide +kernel
theorem d_Co_operation_2 : decode b_Co_operation 2 = .ok (.invokevirtual 25, 3) := by decide +kernel
theorem d_Co_operation_5 : decode b_Co_operation 5 = .ok (.ifCond .eq 12, 3) := by decide +kernel
theorem d_Co_operation_8 : decode b_Co_operation 8 = .ok (.aload_n 0, 1) := by decide +kernel
theorem d_Co_operation_9 : decode b_Co_operation 9 = .ok (.getfield 11, 3) := by decide +kernel
theorem d_Co_operation_12 : decode b_Co_operation 12 = .ok (.iload_n 1, 1) := by decide +kernel
theorem d_Co_operation_13 : decode b_Co_operation 13 = .ok (.iaload, 1) := by decide +kernel
theorem d_Co_operation_14 : decode b_Co_operation 14 = .ok (.goto 4, 3) := by decide +kernel
theorem d_Co_operation_17 : decode b_Co_operation 17 = .ok (.iconst 0, 1) := by decide +kernel
theorem d_Co_operation_18 : decode b_Co_operation 18 = .ok (.ireturn, 1) := by decide +kernel

set_option maxHeartbeats 4000000 in
set_option maxRecDepth 100000 in
theorem g_Co_operation (l : Launch) (G : nn_G) (sz : Nat) (h1 y1 y2 y3 : Nat) (f1 f2 f3 : Nat → Int32) (n : Nat) (k : Int32) (hn : n ≤ 180) : Met l y_Co_operation w_Co_operation ({ frames := 1, cells := 0, slots := 0, locals := 21 }) (nn_P G [.ref h1, .int k] [(h1, .inr (1, [.ref y1, .ref y2, .ref y3, .int (nI n)])), (y1, .inl (G.2 0, 180, .inl (f1))), (y2, .inl (G.2 0, 180, .inl (f2))), (y3, .inl (G.2 0, 180, .inl (f3)))] sz) (vp_Si (fun r => True)) 0 0 (fun _ => False) := by
  refine Met.ofW (cc := b_Co_operation) (maxL := 2) (ret := some .int) (by decide) rfl ?_
  intro p e s m args below meth c s₁ B hml hv
  obtain ⟨rfl, hsz, hP, hK, hD0, hN⟩ := hv
  have hx := B.exec
  have hb := B.bytes
  have hr := B.returns
  have hts := atoms_spec (ws := w_Co_operation) B.pre
  have hg : ∀ w ∈ nn_gw, w.before _ s = true := fun w h => hts w (List.mem_cons_of_mem _ h)
  have hown : s.vm.findClass R_Co = some m.cls := findClass_of_methodNamed B.named
  have hlocks := B.notSynchronized
  subst hsz
  have hD := hD0
  generalize hAe : (fun _ : Nat => True) = A at hD
  have hA : ∀ q : Nat, s.heap.size ≤ q → A q := fun q h => by rw [← hAe]; trivial
  have hS : va_S A s.heap s.heap [] := va_S.rf
  have hP : va_P G.1 nn_cls [(h1, .inr (1, [.ref y1, .ref y2, .ref y3, .int (nI n)])), (y1, .inl (G.2 0, 180, .inl (f1))), (y2, .inl (G.2 0, 180, .inl (f2))), (y3, .inl (G.2 0, 180, .inl (f3)))] s.heap := hP
  have hl := lv_entry ([.ref h1, .int k]) (n := 2) (Nat.le_of_ble_eq_true rfl)
  rw [lg_entry_eq]
  generalize (lg_sl ([.ref h1, .int k]) ++ List.replicate (2 - (lg_sl ([.ref h1, .int k])).length) Slot.unset).toArray = ls at hl ⊢
  have hl : lv_has ls 2 [(0, .ref h1), (1, .int k)] := hl
  refine lv_aload_n hx hb d_Co_operation_0 rfl (lv_at hl 0 rfl) ?_
  refine lv_iload_n hx hb d_Co_operation_1 rfl (lv_at hl 1 rfl) ?_
  have hPc := hP.sub (ws' := [(h1, .inr (1, [.ref y1, .ref y2, .ref y3, .int (nI n)])), (y1, .inl (G.2 0, 180, .inl (f1))), (y2, .inl (G.2 0, 180, .inl (f2))), (y3, .inl (G.2 0, 180, .inl (f3)))]) [0, 1, 2, 3] rfl
  have hDc := hD.sub (ws' := [(h1, .inr (1, [.ref y1, .ref y2, .ref y3, .int (nI n)])), (y1, .inl (G.2 0, 180, .inl (f1))), (y2, .inl (G.2 0, 180, .inl (f2))), (y3, .inl (G.2 0, 180, .inl (f3)))]) [0, 1, 2, 3] (by decide) rfl
  refine vp_callSi (va_Run.run (va_runV (As := [.int k]) (rest := []) ⟨hx, hb, hml, hown, hts⟩ (g_Co_isOne l G _ h1 y1 y2 y3 f1 f2 f3 n k hn) (cwV 1 hts (nn_gV mw_325 mw_322 mw_324 mw_1 mw_92) rfl rfl rfl (by decide +kernel) ⟨Nat.le_of_ble_eq_true rfl, Nat.le_of_ble_eq_true rfl⟩) (nn_preV (va_recv hK hP rfl (q0 := 0) rfl) hPc hDc hK hN) rfl rfl hl.1 rfl (lv_room (Nat.le_of_ble_eq_true rfl)) d_Co_operation_2 ⟨(Nat.le_of_ble_eq_true rfl), (Nat.le_of_ble_eq_true rfl)⟩)) (fun r1 er1 => ?_)
  refine lv_if_eq (tgt := 17) hx hb d_Co_operation_5 rfl (fun hc5 => ?_) (fun hc5 => ?_)
  · skip
    refine lv_iconst (v := 0) hx hb d_Co_operation_17 (by decide) ?_
    exact W.iret (v := 0) hx hb hr (fun t ht hW => ⟨0, rfl, trivial, ht⟩) (fun q h => by cases h) d_Co_operation_18
  · skip
    refine lv_aload_n hx hb d_Co_operation_8 rfl (lv_at hl 0 rfl) ?_
    refine va_get (D := G.1) (ci := 1) (v := .ref y1) (C := R_Co) (T := T_Co) (N := 4) hx hb hg in_Co hown hK hP 0 rfl rfl 0 (by decide) (hg _ mw_206) (fun _ h9 => h9) rfl d_Co_operation_9 ?_
    refine lv_iload_n hx hb d_Co_operation_12 rfl (lv_at hl 1 rfl) ?_
    refine va_iald hx hb hK hP 1 0 rfl rfl (nb_mono (er1.resolve_left hc5).2 hn) d_Co_operation_13 ?_
    refine lv_goto (tgt := 18) hx hb d_Co_operation_14 rfl ?_
    exact W.iret (v := (f1) k.toNatClampNeg) hx hb hr (fun t ht hW => ⟨(f1) k.toNatClampNeg, rfl, trivial, ht⟩) (fun q h => by cases h) d_Co_operation_18

theorem mw_207 : (.fieldLink R_Co 15 R_Co "links" "[I" : Cond) ∈ nn_gw := nn_at 207 (by decide +kernel) (by decide +kernel)
theorem d_Co_links_0 : decode b_Co_links 0 = .ok (.aload_n 0, 1) := by decide +kernel
theorem d_Co_links_1 : decode b_Co_links 1 = .ok (.iload_n 1, 1) := by decide +kernel
theorem d_Co_links_2 : decode b_Co_links 2 = .ok (.invokevirtual 25, 3) := by decide +kernel
theorem d_Co_links_5 : decode b_Co_links 5 = .ok (.ifCond .eq 12, 3) := by decide +kernel
theorem d_Co_links_8 : decode b_Co_links 8 = .ok (.aload_n 0, 1) := by decide +kernel
theorem d_Co_links_9 : decode b_Co_links 9 = .ok (.getfield 15, 3) := by decide +kernel
theorem d_Co_links_12 : decode b_Co_links 12 = .ok (.iload_n 1, 1) := by decide +kernel
theorem d_Co_links_13 : decode b_Co_links 13 = .ok (.iaload, 1) := by decide +kernel
theorem d_Co_links_14 : decode b_Co_links 14 = .ok (.goto 4, 3) := by decide +kernel
theorem d_Co_links_17 : decode b_Co_links 17 = .ok (.iconst 0, 1) := by decide +kernel
theorem d_Co_links_18 : decode b_Co_links 18 = .ok (.ireturn, 1) := by decide +kernel

set_option maxHeartbeats 4000000 in
set_option maxRecDepth 100000 in
theorem g_Co_links (l : Launch) (G : nn_G) (sz : Nat) (h1 y1 y2 y3 : Nat) (f1 f2 f3 : Nat → Int32) (n : Nat) (k : Int32) (hn : n ≤ 180) : Met l y_Co_links w_Co_links ({ frames := 1, cells := 0, slots := 0, locals := 21 }) (nn_P G [.ref h1, .int k] [(h1, .inr (1, [.ref y1, .ref y2, .ref y3, .int (nI n)])), (y1, .inl (G.2 0, 180, .inl (f1))), (y2, .inl (G.2 0, 180, .inl (f2))), (y3, .inl (G.2 0, 180, .inl (f3)))] sz) (vp_Si (fun r => True)) 0 0 (fun _ => False) := by
  refine Met.ofW (cc := b_Co_links) (maxL := 2) (ret := some .int) (by decide) rfl ?_
  intro p e s m args below meth c s₁ B hml hv
  obtain ⟨rfl, hsz, hP, hK, hD0, hN⟩ := hv
  have hx := B.exec
  have hb := B.bytes
  have hr := B.returns
  have hts := atoms_spec (ws := w_Co_links) B.pre
  have hg : ∀ w ∈ nn_gw, w.before _ s = true := fun w h => hts w (List.mem_cons_of_mem _ h)
  have hown : s.vm.findClass R_Co = some m.cls := findClass_of_methodNamed B.named
  have hlocks := B.notSynchronized
  subst hsz
  have hD := hD0
  generalize hAe : (fun _ : Nat => True) = A at hD
  have hA : ∀ q : Nat, s.heap.size ≤ q → A q := fun q h => by rw [← hAe]; trivial
  have hS : va_S A s.heap s.heap [] := va_S.rf
  have hP : va_P G.1 nn_cls [(h1, .inr (1, [.ref y1, .ref y2, .ref y3, .int (nI n)])), (y1, .inl (G.2 0, 180, .inl (f1))), (y2, .inl (G.2 0, 180, .inl (f2))), (y3, .inl (G.2 0, 180, .inl (f3)))] s.heap := hP
  have hl := lv_entry ([.ref h1, .int k]) (n := 2) (Nat.le_of_ble_eq_true rfl)
  rw [lg_entry_eq]
  generalize (lg_sl ([.ref h1, .int k]) ++ List.replicate (2 - (lg_sl ([.ref h1, .int k])).length) Slot.unset).toArray = ls at hl ⊢
  have hl : lv_has ls 2 [(0, .ref h1), (1, .int k)] := hl
  refine lv_aload_n hx hb d_Co_links_0 rfl (lv_at hl 0 rfl) ?_
  refine lv_iload_n hx hb d_Co_links_1 rfl (lv_at hl 1 rfl) ?_
  have hPc := hP.sub (ws' := [(h1, .inr (1, [.ref y1, .ref y2, .ref y3, .int (nI n)])), (y1, .inl (G.2 0, 180, .inl (f1))), (y2, .inl (G.2 0, 180, .inl (f2))), (y3, .inl (G.2 0, 180, .inl (f3)))]) [0, 1, 2, 3] rfl
  have hDc := hD.sub (ws' := [(h1, .inr (1, [.ref y1, .ref y2, .ref y3, .int (nI n)])), (y1, .inl (G.2 0, 180, .inl (f1))), (y2, .inl (G.2 0, 180, .inl (f2))), (y3, .inl (G.2 0, 180, .inl (f3)))]) [0, 1, 2, 3] (by decide) rfl
  refine vp_callSi (va_Run.run (va_runV (As := [.int k]) (rest := []) ⟨hx, hb, hml, hown, hts⟩ (g_Co_isOne l G _ h1 y1 y2 y3 f1 f2 f3 n k hn) (cwV 1 hts (nn_gV mw_325 mw_322 mw_324 mw_1 mw_92) rfl rfl rfl (by decide +kernel) ⟨Nat.le_of_ble_eq_true rfl, Nat.le_of_ble_eq_true rfl⟩) (nn_preV (va_recv hK hP rfl (q0 := 0) rfl) hPc hDc hK hN) rfl rfl hl.1 rfl (lv_room (Nat.le_of_ble_eq_true rfl)) d_Co_links_2 ⟨(Nat.le_of_ble_eq_true rfl), (Nat.le_of_ble_eq_true rfl)⟩)) (fun r1 er1 => ?_)
  refine lv_if_eq (tgt := 17) hx hb d_Co_links_5 rfl (fun hc5 => ?_) (fun hc5 => ?_)
  · skip
    refine lv_iconst (v := 0) hx hb d_Co_links_17 (by decide) ?_
    exact W.iret (v := 0) hx hb hr (fun t ht hW => ⟨0, rfl, trivial, ht⟩) (fun q h => by cases h) d_Co_links_18
  · skip
    refine lv_aload_n hx hb d_Co_links_8 rfl (lv_at hl 0 rfl) ?_
    refine va_get (D := G.1) (ci := 1) (v := .ref y2) (C := R_Co) (T := T_Co) (N := 4) hx hb hg in_Co hown hK hP 0 rfl rfl 1 (by decide) (hg _ mw_207) (fun _ h9 => h9) rfl d_Co_links_9 ?_
    refine lv_iload_n hx hb d_Co_links_12 rfl (lv_at hl 1 rfl) ?_
    refine va_iald hx hb hK hP 2 0 rfl rfl (nb_mono (er1.resolve_left hc5).2 hn) d_Co_links_13 ?_
    refine lv_goto (tgt := 18) hx hb d_Co_links_14 rfl ?_
    exact W.iret (v := (f2) k.toNatClampNeg) hx hb hr (fun t ht hW => ⟨(f2) k.toNatClampNeg, rfl, trivial, ht⟩) (fun q h => by cases h) d_Co_links_18

theorem mw_208 : (.fieldLink R_Co 18 R_Co "operands" "[I" : Cond) ∈ nn_gw := nn_at 208 (by decide +kernel) (by decide +kernel)
theorem d_Co_operand_0 : decode b_Co_operand 0 = .ok (.aload_n 0, 1) := by decide +kernel
theorem d_Co_operand_1 : decode b_Co_operand 1 = .ok (.iload_n 1, 1) := by decide +kernel
theorem d_Co_operand_2 : decode b_Co_operand 2 = .ok (.invokevirtual 25, 3) := by decide +kernel
theorem d_Co_operand_5 : decode b_Co_operand 5 = .ok (.ifCond .eq 12, 3) := by decide +kernel
theorem d_Co_operand_8 : decode b_Co_operand 8 = .ok (.aload_n 0, 1) := by decide +kernel
theorem d_Co_operand_9 : decode b_Co_operand 9 = .ok (.getfield 18, 3) := by decide +kernel
theorem d_Co_operand_12 : decode b_Co_operand 12 = .ok (.iload_n 1, 1) := by decide +kernel
theorem d_Co_operand_13 : decode b_Co_operand 13 = .ok (.iaload, 1) := by decide +kernel
theorem d_Co_operand_14 : decode b_Co_operand 14 = .ok (.goto 4, 3) := by decide +kernel
theorem d_Co_operand_17 : decode b_Co_operand 17 = .ok (.iconst 0, 1) := by decide +kernel
theorem d_Co_operand_18 : decode b_Co_operand 18 = .ok (.ireturn, 1) := by decide +kernel

set_option maxHeartbeats 4000000 in
set_option maxRecDepth 100000 in
theorem g_Co_operand (l : Launch) (G : nn_G) (sz : Nat) (h1 y1 y2 y3 : Nat) (f1 f2 f3 : Nat → Int32) (n : Nat) (k : Int32) (hn : n ≤ 180) : Met l y_Co_operand w_Co_operand ({ frames := 1, cells := 0, slots := 0, locals := 21 }) (nn_P G [.ref h1, .int k] [(h1, .inr (1, [.ref y1, .ref y2, .ref y3, .int (nI n)])), (y1, .inl (G.2 0, 180, .inl (f1))), (y2, .inl (G.2 0, 180, .inl (f2))), (y3, .inl (G.2 0, 180, .inl (f3)))] sz) (vp_Si (fun r => True)) 0 0 (fun _ => False) := by
  refine Met.ofW (cc := b_Co_operand) (maxL := 2) (ret := some .int) (by decide) rfl ?_
  intro p e s m args below meth c s₁ B hml hv
  obtain ⟨rfl, hsz, hP, hK, hD0, hN⟩ := hv
  have hx := B.exec
  have hb := B.bytes
  have hr := B.returns
  have hts := atoms_spec (ws := w_Co_operand) B.pre
  have hg : ∀ w ∈ nn_gw, w.before _ s = true := fun w h => hts w (List.mem_cons_of_mem _ h)
  have hown : s.vm.findClass R_Co = some m.cls := findClass_of_methodNamed B.named
  have hlocks := B.notSynchronized
  subst hsz
  have hD := hD0
  generalize hAe : (fun _ : Nat => True) = A at hD
  have hA : ∀ q : Nat, s.heap.size ≤ q → A q := fun q h => by rw [← hAe]; trivial
  have hS : va_S A s.heap s.heap [] := va_S.rf
  have hP : va_P G.1 nn_cls [(h1, .inr (1, [.ref y1, .ref y2, .ref y3, .int (nI n)])), (y1, .inl (G.2 0, 180, .inl (f1))), (y2, .inl (G.2 0, 180, .inl (f2))), (y3, .inl (G.2 0, 180, .inl (f3)))] s.heap := hP
  have hl := lv_entry ([.ref h1, .int k]) (n := 2) (Nat.le_of_ble_eq_true rfl)
  rw [lg_entry_eq]
  generalize (lg_sl ([.ref h1, .int k]) ++ List.replicate (2 - (lg_sl ([.ref h1, .int k])).length) Slot.unset).toArray = ls at hl ⊢
  have hl : lv_has ls 2 [(0, .ref h1), (1, .int k)] := hl
  refine lv_aload_n hx hb d_Co_operand_0 rfl (lv_at hl 0 rfl) ?_
  refine lv_iload_n hx hb d_Co_operand_1 rfl (lv_at hl 1 rfl) ?_
  have hPc := hP.sub (ws' := [(h1, .inr (1, [.ref y1, .ref y2, .ref y3, .int (nI n)])), (y1, .inl (G.2 0, 180, .inl (f1))), (y2, .inl (G.2 0, 180, .inl (f2))), (y3, .inl (G.2 0, 180, .inl (f3)))]) [0, 1, 2, 3] rfl
  have hDc := hD.sub (ws' := [(h1, .inr (1, [.ref y1, .ref y2, .ref y3, .int (nI n)])), (y1, .inl (G.2 0, 180, .inl (f1))), (y2, .inl (G.2 0, 180, .inl (f2))), (y3, .inl (G.2 0, 180, .inl (f3)))]) [0, 1, 2, 3] (by decide) rfl
  refine vp_callSi (va_Run.run (va_runV (As := [.int k]) (rest := []) ⟨hx, hb, hml, hown, hts⟩ (g_Co_isOne l G _ h1 y1 y2 y3 f1 f2 f3 n k hn) (cwV 1 hts (nn_gV mw_325 mw_322 mw_324 mw_1 mw_92) rfl rfl rfl (by decide +kernel) ⟨Nat.le_of_ble_eq_true rfl, Nat.le_of_ble_eq_true rfl⟩) (nn_preV (va_recv hK hP rfl (q0 := 0) rfl) hPc hDc hK hN) rfl rfl hl.1 rfl (lv_room (Nat.le_of_ble_eq_true rfl)) d_Co_operand_2 ⟨(Nat.le_of_ble_eq_true rfl), (Nat.le_of_ble_eq_true rfl)⟩)) (fun r1 er1 => ?_)
  refine lv_if_eq (tgt := 17) hx hb d_Co_operand_5 rfl (fun hc5 => ?_) (fun hc5 => ?_)
  · skip
    refine lv_iconst (v := 0) hx hb d_Co_operand_17 (by decide) ?_
    exact W.iret (v := 0) hx hb hr (fun t ht hW => ⟨0, rfl, trivial, ht⟩) (fun q h => by cases h) d_Co_operand_18
  · skip
    refine lv_aload_n hx hb d_Co_operand_8 rfl (lv_at hl 0 rfl) ?_
    refine va_get (D := G.1) (ci := 1) (v := .ref y3) (C := R_Co) (T := T_Co) (N := 4) hx hb hg in_Co hown hK hP 0 rfl rfl 2 (by decide) (hg _ mw_208) (fun _ h9 => h9) rfl d_Co_operand_9 ?_
    refine lv_iload_n hx hb d_Co_operand_12 rfl (lv_at hl 1 rfl) ?_
    refine va_iald hx hb hK hP 3 0 rfl rfl (nb_mono (er1.resolve_left hc5).2 hn) d_Co_operand_13 ?_
    refine lv_goto (tgt := 18) hx hb d_Co_operand_14 rfl ?_
    exact W.iret (v := (f3) k.toNatClampNeg) hx hb hr (fun t ht hW => ⟨(f3) k.toNatClampNeg, rfl, trivial, ht⟩) (fun q h => by cases h) d_Co_operand_18

theorem d_Co_size_0 : decode b_Co_size 0 = .ok (.aload_n 0, 1) := by decide +kernel
theorem d_Co_size_1 : decode b_Co_size 1 = .ok (.getfield 21, 3) := by decide +kernel
theorem d_Co_size_4 : decode b_Co_size 4 = .ok (.ireturn, 1) := by decide +kernel

set_option maxHeartbeats 4000000 in
set_option maxRecDepth 100000 in
theorem g_Co_size (l : Launch) (G : nn_G) (sz : Nat) (h1 y1 y2 y3 : Nat) (f1 f2 f3 : Nat → Int32) (n : Nat) : Met l y_Co_size w_Co_size ({ frames := 0, cells := 0, slots := 0, locals := 0 }) (nn_P G [.ref h1] [(h1, .inr (1, [.ref y1, .ref y2, .ref y3, .int (nI n)])), (y1, .inl (G.2 0, 180, .inl (f1))), (y2, .inl (G.2 0, 180, .inl (f2))), (y3, .inl (G.2 0, 180, .inl (f3)))] sz) (vp_Si (fun r => r = nI n)) 0 0 (fun _ => False) := by
  refine Met.ofW (cc := b_Co_size) (maxL := 1) (ret := some .int) (by decide) rfl ?_
  intro p e s m args below meth c s₁ B hml hv
  obtain ⟨rfl, hsz, hP, hK, hD0, hN⟩ := hv
  have hx := B.exec
  have hb := B.bytes
  have hr := B.returns
  have hts := atoms_spec (ws := w_Co_size) B.pre
  have hg : ∀ w ∈ nn_gw, w.before _ s = true := fun w h => hts w (List.mem_cons_of_mem _ h)
  have hown : s.vm.findClass R_Co = some m.cls := findClass_of_methodNamed B.named
  have hlocks := B.notSynchronized
  subst hsz
  have hD := hD0
  generalize hAe : (fun _ : Nat => True) = A at hD
  have hA : ∀ q : Nat, s.heap.size ≤ q → A q := fun q h => by rw [← hAe]; trivial
  have hS : va_S A s.heap s.heap [] := va_S.rf
  have hP : va_P G.1 nn_cls [(h1, .inr (1, [.ref y1, .ref y2, .ref y3, .int (nI n)])), (y1, .inl (G.2 0, 180, .inl (f1))), (y2, .inl (G.2 0, 180, .inl (f2))), (y3, .inl (G.2 0, 180, .inl (f3)))] s.heap := hP
  have hl := lv_entry ([.ref h1]) (n := 1) (Nat.le_of_ble_eq_true rfl)
  rw [lg_entry_eq]
  generalize (lg_sl ([.ref h1]) ++ List.replicate (1 - (lg_sl ([.ref h1])).length) Slot.unset).toArray = ls at hl ⊢
  have hl : lv_has ls 1 [(0, .ref h1)] := hl
  refine lv_aload_n hx hb d_Co_size_0 rfl (lv_at hl 0 rfl) ?_
  refine va_get (D := G.1) (ci := 1) (v := .int (nI n)) (C := R_Co) (T := T_Co) (N := 4) hx hb hg in_Co hown hK hP 0 rfl rfl 3 (by decide) (hg _ mw_209) (fun _ h9 => h9) rfl d_Co_size_1 ?_
  exact W.iret (v := nI n) hx hb hr (fun t ht hW => ⟨nI n, rfl, rfl, ht⟩) (fun q h => by cases h) d_Co_size_4

theorem d_Co_clear_0 : decode b_Co_clear 0 = .ok (.aload_n 0, 1) := by decide +kernel
theorem d_Co_clear_1 : decode b_Co_clear 1 = .ok (.iconst 0, 1) := by decide +kernel
theorem d_Co_clear_2 : decode b_Co_clear 2 = .ok (.putfield 21, 3) := by decide +kernel
theorem d_Co_clear_5 : decode b_Co_clear 5 = .ok (.return_, 1) := by decide +kernel

set_option maxHeartbeats 4000000 in
set_option maxRecDepth 100000 in
theorem g_Co_clear (l : Launch) (G : nn_G) (sz : Nat) (h1 y1 y2 y3 : Nat) (f1 f2 f3 : Nat → Int32) (n : Nat) : Met l y_Co_clear w_Co_clear ({ frames := 0, cells := 0, slots := 0, locals := 0 }) (nn_P G [.ref h1] [(h1, .inr (1, [.ref y1, .ref y2, .ref y3, .int (nI n)])), (y1, .inl (G.2 0, 180, .inl (f1))), (y2, .inl (G.2 0, 180, .inl (f2))), (y3, .inl (G.2 0, 180, .inl (f3)))] sz) (va_Qv (fun u : (Nat → Int32) × (Nat → Int32) × (Nat → Int32) × Nat => u.2.2.2 = 0) (fun u t => va_P G.1 nn_cls [(h1, .inr (1, [.ref y1, .ref y2, .ref y3, .int (nI u.2.2.2)])), (y1, .inl (G.2 0, 180, .inl (u.1))), (y2, .inl (G.2 0, 180, .inl (u.2.1))), (y3, .inl (G.2 0, 180, .inl (u.2.2.1)))] t.heap ∧ va_D (va_A [(h1, .inr (1, [.ref y1, .ref y2, .ref y3, .int (nI n)])), (y1, .inl (G.2 0, 180, .inl (f1))), (y2, .inl (G.2 0, 180, .inl (f2))), (y3, .inl (G.2 0, 180, .inl (f3)))] sz) [(h1, .inr (1, [.ref y1, .ref y2, .ref y3, .int (nI u.2.2.2)])), (y1, .inl (G.2 0, 180, .inl (u.1))), (y2, .inl (G.2 0, 180, .inl (u.2.1))), (y3, .inl (G.2 0, 180, .inl (u.2.2.1)))]) (va_A [(h1, .inr (1, [.ref y1, .ref y2, .ref y3, .int (nI n)])), (y1, .inl (G.2 0, 180, .inl (f1))), (y2, .inl (G.2 0, 180, .inl (f2))), (y3, .inl (G.2 0, 180, .inl (f3)))] sz)) 0 0 (va_A [(h1, .inr (1, [.ref y1, .ref y2, .ref y3, .int (nI n)])), (y1, .inl (G.2 0, 180, .inl (f1))), (y2, .inl (G.2 0, 180, .inl (f2))), (y3, .inl (G.2 0, 180, .inl (f3)))] sz) := by
  refine Met.ofW (cc := b_Co_clear) (maxL := 1) (ret := none) (by decide) rfl ?_
  intro p e s m args below meth c s₁ B hml hv
  obtain ⟨rfl, hsz, hP, hK, hD0, hN⟩ := hv
  have hx := B.exec
  have hb := B.bytes
  have hr := B.returns
  have hts := atoms_spec (ws := w_Co_clear) B.pre
  have hg : ∀ w ∈ nn_gw, w.before _ s = true := fun w h => hts w (List.mem_cons_of_mem _ h)
  have hown : s.vm.findClass R_Co = some m.cls := findClass_of_methodNamed B.named
  have hlocks := B.notSynchronized
  subst hsz
  have hD := hD0.self (sz := s.heap.size)
  generalize hAe : va_A [(h1, .inr (1, [.ref y1, .ref y2, .ref y3, .int (nI n)])), (y1, .inl (G.2 0, 180, .inl (f1))), (y2, .inl (G.2 0, 180, .inl (f2))), (y3, .inl (G.2 0, 180, .inl (f3)))] s.heap.size = A at hD ⊢
  have hA : ∀ q : Nat, s.heap.size ≤ q → A q := fun q h => by rw [← hAe]; exact Or.inr h
  have hS : va_S A s.heap s.heap [] := va_S.rf
  have hP : va_P G.1 nn_cls [(h1, .inr (1, [.ref y1, .ref y2, .ref y3, .int (nI n)])), (y1, .inl (G.2 0, 180, .inl (f1))), (y2, .inl (G.2 0, 180, .inl (f2))), (y3, .inl (G.2 0, 180, .inl (f3)))] s.heap := hP
  have hl := lv_entry ([.ref h1]) (n := 1) (Nat.le_of_ble_eq_true rfl)
  rw [lg_entry_eq]
  generalize (lg_sl ([.ref h1]) ++ List.replicate (1 - (lg_sl ([.ref h1])).length) Slot.unset).toArray = ls at hl ⊢
  have hl : lv_has ls 1 [(0, .ref h1)] := hl
  refine lv_aload_n hx hb d_Co_clear_0 rfl (lv_at hl 0 rfl) ?_
  refine lv_iconst (v := 0) hx hb d_Co_clear_1 (by decide) ?_
  refine va_put (D := G.1) (ci := 1) (v := .int 0) (ty := .int) (C := R_Co) (T := T_Co) (N := 4) hx hb hg in_Co t_Co ok_Co nm_Co hown hK hP hD hS 0 rfl rfl 3 (by decide) (hg _ mw_209) (fun _ h9 => h9) rfl (by decide +kernel) rfl rfl (Nat.le_of_ble_eq_true rfl) d_Co_clear_2 (fun H locs hP hD hS => ?_)
  have hP : va_P G.1 nn_cls [(h1, .inr (1, [.ref y1, .ref y2, .ref y3, .int 0])), (y1, .inl (G.2 0, 180, .inl (f1))), (y2, .inl (G.2 0, 180, .inl (f2))), (y3, .inl (G.2 0, 180, .inl (f3)))] H := hP
  have hD : va_D A [(h1, .inr (1, [.ref y1, .ref y2, .ref y3, .int 0])), (y1, .inl (G.2 0, 180, .inl (f1))), (y2, .inl (G.2 0, 180, .inl (f2))), (y3, .inl (G.2 0, 180, .inl (f3)))] := hD
  refine W.widen (k := 0) (n := 0) (Nat.le_of_ble_eq_true rfl) (Nat.le_of_ble_eq_true rfl) ?_
  have hP9 := hP.sub (ws' := [(h1, .inr (1, [.ref y1, .ref y2, .ref y3, .int 0])), (y1, .inl (G.2 0, 180, .inl (f1))), (y2, .inl (G.2 0, 180, .inl (f2))), (y3, .inl (G.2 0, 180, .inl (f3)))]) [0, 1, 2, 3] rfl
  have hD9 := hD.sub (ws' := [(h1, .inr (1, [.ref y1, .ref y2, .ref y3, .int 0])), (y1, .inl (G.2 0, 180, .inl (f1))), (y2, .inl (G.2 0, 180, .inl (f2))), (y3, .inl (G.2 0, 180, .inl (f3)))]) [0, 1, 2, 3] (by decide) rfl
  exact W.vret hx hb hr (fun t ht hW => ⟨⟨(f1, f2, f3, 0), rfl, rfl, ⟨by rw [ht]; exact hP9, hD9⟩⟩, hS.F ht⟩) hS.2.2 d_Co_clear_5

theorem d_Co_add_0 : decode b_Co_add 0 = .ok (.aload_n 0, 1) := by decide +kernel
theorem d_Co_add_1 : decode b_Co_add 1 = .ok (.getfield 21, 3) := by decide +kernel
theorem d_Co_add_4 : decode b_Co_add 4 = .ok (.sipush 180, 3) := by decide +kernel
theorem d_Co_add_7 : decode b_Co_add 7 = .ok (.if_icmp .lt 5, 3) := by decide +kernel
theorem d_Co_add_10 : decode b_Co_add 10 = .ok (.iconst (-1), 1) := by decide +kernel
theorem d_Co_add_11 : decode b_Co_add 11 = .ok (.ireturn, 1) := by decide +kernel
theorem d_Co_add_12 : decode b_Co_add 12 = .ok (.aload_n 0, 1) := by decide +kernel
theorem d_Co_add_13 : decode b_Co_add 13 = .ok (.getfield 11, 3) := by decide +kernel
theorem d_Co_add_16 : decode b_Co_add 16 = .ok (.aload_n 0, 1) := by decide +kernel
theorem d_Co_add_17 : decode b_Co_add 17 = .ok (.getfield 21, 3) := by decide +kernel
theorem d_Co_add_20 : decode b_Co_add 20 = .ok (.iload_n 1, 1) := by decide +kernel
theorem d_Co_add_21 : decode b_Co_add 21 = .ok (.iastore, 1) := by decide +kernel
theorem d_Co_add_22 : decode b_Co_add 22 = .ok (.aload_n 0, 1) := by decide +kernel
theorem d_Co_add_23 : decode b_Co_add 23 = .ok (.getfield 15, 3) := by decide +kernel
theorem d_Co_add_26 : decode b_Co_add 26 = .ok (.aload_n 0, 1) := by decide +kernel
theorem d_Co_add_27 : decode b_Co_add 27 = .ok (.getfield 21, 3) := by decide +kernel
theorem d_Co_add_30 : decode b_Co_add 30 = .ok (.iload_n 2, 1) := by decide +kernel
theorem d_Co_add_31 : decode b_Co_add 31 = .ok (.iastore, 1) := by decide +kernel
theorem d_Co_add_32 : decode b_Co_add 32 = .ok (.aload_n 0, 1) := by decide +kernel
theorem d_Co_add_33 : decode b_Co_add 33 = .ok (.getfield 18, 3) := by decide +kernel
theorem d_Co_add_36 : decode b_Co_add 36 = .ok (.aload_n 0, 1) := by decide +kernel
theorem d_Co_add_37 : decode b_Co_add 37 = .ok (.getfield 21, 3) := by decide +kernel
theorem d_Co_add_40 : decode b_Co_add 40 = .ok (.iload_n 3, 1) := by decide +kernel
theorem d_Co_add_41 : decode b_Co_add 41 = .ok (.iastore, 1) := by decide +kernel
theorem d_Co_add_42 : decode b_Co_add 42 = .ok (.aload_n 0, 1) := by decide +kernel
theorem d_Co_add_43 : decode b_Co_add 43 = .ok (.dup, 1) := by decide +kernel
theorem d_Co_add_44 : decode b_Co_add 44 = .ok (.getfield 21, 3) := by decide +kernel
theorem d_Co_add_47 : decode b_Co_add 47 = .ok (.iconst 1, 1) := by decide +kernel
theorem d_Co_add_48 : decode b_Co_add 48 = .ok (.iadd, 1) := by decide +kernel
theorem d_Co_add_49 : decode b_Co_add 49 = .ok (.putfield 21, 3) := by decide +kernel
theorem d_Co_add_52 : decode b_Co_add 52 = .ok (.aload_n 0, 1) := by decide +kernel
theorem d_Co_add_53 : decode b_Co_add 53 = .ok (.getfield 21, 3) := by decide +kernel
theorem d_Co_add_56 : decode b_Co_add 56 = .ok (.iconst 1, 1) := by decide +kernel
theorem d_Co_add_57 : decode b_Co_add 57 = .ok (.isub, 1) := by decide +kernel
theorem d_Co_add_58 : decode b_Co_add 58 = .ok (.ireturn, 1) := by decide +kernel

set_option maxHeartbeats 4000000 in
set_option maxRecDepth 100000 in
theorem g_Co_add (l : Launch) (G : nn_G) (sz : Nat) (h1 y1 y2 y3 : Nat) (f1 f2 f3 : Nat → Int32) (n : Nat) (k i j : Int32) (hn : n ≤ 180) : Met l y_Co_add w_Co_add ({ frames := 0, cells := 0, slots := 0, locals := 0 }) (nn_P G [.ref h1, .int k, .int i, .int j] [(h1, .inr (1, [.ref y1, .ref y2, .ref y3, .int (nI n)])), (y1, .inl (G.2 0, 180, .inl (f1))), (y2, .inl (G.2 0, 180, .inl (f2))), (y3, .inl (G.2 0, 180, .inl (f3)))] sz) (va_Qi (fun (r : Int32) (u : (Nat → Int32) × (Nat → Int32) × (Nat → Int32) × Nat) => u.2.2.2 ≤ 180) (fun u t => va_P G.1 nn_cls [(h1, .inr (1, [.ref y1, .ref y2, .ref y3, .int (nI u.2.2.2)])), (y1, .inl (G.2 0, 180, .inl (u.1))), (y2, .inl (G.2 0, 180, .inl (u.2.1))), (y3, .inl (G.2 0, 180, .inl (u.2.2.1)))] t.heap ∧ va_D (va_A [(h1, .inr (1, [.ref y1, .ref y2, .ref y3, .int (nI n)])), (y1, .inl (G.2 0, 180, .inl (f1))), (y2, .inl (G.2 0, 180, .inl (f2))), (y3, .inl (G.2 0, 180, .inl (f3)))] sz) [(h1, .inr (1, [.ref y1, .ref y2, .ref y3, .int (nI u.2.2.2)])), (y1, .inl (G.2 0, 180, .inl (u.1))), (y2, .inl (G.2 0, 180, .inl (u.2.1))), (y3, .inl (G.2 0, 180, .inl (u.2.2.1)))]) (va_A [(h1, .inr (1, [.ref y1, .ref y2, .ref y3, .int (nI n)])), (y1, .inl (G.2 0, 180, .inl (f1))), (y2, .inl (G.2 0, 180, .inl (f2))), (y3, .inl (G.2 0, 180, .inl (f3)))] sz)) 0 0 (va_A [(h1, .inr (1, [.ref y1, .ref y2, .ref y3, .int (nI n)])), (y1, .inl (G.2 0, 180, .inl (f1))), (y2, .inl (G.2 0, 180, .inl (f2))), (y3, .inl (G.2 0, 180, .inl (f3)))] sz) := by
  refine Met.ofW (cc := b_Co_add) (maxL := 4) (ret := some .int) (by decide) rfl ?_
  intro p e s m args below meth c s₁ B hml hv
  obtain ⟨rfl, hsz, hP, hK, hD0, hN⟩ := hv
  have hx := B.exec
  have hb := B.bytes
  have hr := B.returns
  have hts := atoms_spec (ws := w_Co_add) B.pre
  have hg : ∀ w ∈ nn_gw, w.before _ s = true := fun w h => hts w (List.mem_cons_of_mem _ h)
  have hown : s.vm.findClass R_Co = some m.cls := findClass_of_methodNamed B.named
  have hlocks := B.notSynchronized
  subst hsz
  have hD := hD0.self (sz := s.heap.size)
  generalize hAe : va_A [(h1, .inr (1, [.ref y1, .ref y2, .ref y3, .int (nI n)])), (y1, .inl (G.2 0, 180, .inl (f1))), (y2, .inl (G.2 0, 180, .inl (f2))), (y3, .inl (G.2 0, 180, .inl (f3)))] s.heap.size = A at hD ⊢
  have hA : ∀ q : Nat, s.heap.size ≤ q → A q := fun q h => by rw [← hAe]; exact Or.inr h
  have hS : va_S A s.heap s.heap [] := va_S.rf
  have hP : va_P G.1 nn_cls [(h1, .inr (1, [.ref y1, .ref y2, .ref y3, .int (nI n)])), (y1, .inl (G.2 0, 180, .inl (f1))), (y2, .inl (G.2 0, 180, .inl (f2))), (y3, .inl (G.2 0, 180, .inl (f3)))] s.heap := hP
  have hl := lv_entry ([.ref h1, .int k, .int i, .int j]) (n := 4) (Nat.le_of_ble_eq_true rfl)
  rw [lg_entry_eq]
  generalize (lg_sl ([.ref h1, .int k, .int i, .int j]) ++ List.replicate (4 - (lg_sl ([.ref h1, .int k, .int i, .int j])).length) Slot.unset).toArray = ls at hl ⊢
  have hl : lv_has ls 4 [(0, .ref h1), (1, .int k), (2, .int i), (3, .int j)] := hl
  refine lv_aload_n hx hb d_Co_add_0 rfl (lv_at hl 0 rfl) ?_
  refine va_get (D := G.1) (ci := 1) (v := .int (nI n)) (C := R_Co) (T := T_Co) (N := 4) hx hb hg in_Co hown hK hP 0 rfl rfl 3 (by decide) (hg _ mw_209) (fun _ h9 => h9) rfl d_Co_add_1 ?_
  refine lv_sipush (v := 180) hx hb d_Co_add_4 (by decide) ?_
  refine lv_icmp_lt (tgt := 12) hx hb d_Co_add_7 rfl (fun hc7 => ?_) (fun hc7 => ?_)
  · skip
    refine lv_aload_n hx hb d_Co_add_12 rfl (lv_at hl 0 rfl) ?_
    refine va_get (D := G.1) (ci := 1) (v := .ref y1) (C := R_Co) (T := T_Co) (N := 4) hx hb hg in_Co hown hK hP 0 rfl rfl 0 (by decide) (hg _ mw_206) (fun _ h9 => h9) rfl d_Co_add_13 ?_
    refine lv_aload_n hx hb d_Co_add_16 rfl (lv_at hl 0 rfl) ?_
    refine va_get (D := G.1) (ci := 1) (v := .int (nI n)) (C := R_Co) (T := T_Co) (N := 4) hx hb hg in_Co hown hK hP 0 rfl rfl 3 (by decide) (hg _ mw_209) (fun _ h9 => h9) rfl d_Co_add_17 ?_
    refine lv_iload_n hx hb d_Co_add_20 rfl (lv_at hl 1 rfl) ?_
    refine va_iast hx hb hK hP hD hS 1 0 rfl rfl (vp_in_nI (nb_ltI (b := 180) hc7 (by omega) (by decide)) (by decide)) d_Co_add_21 (fun H locs hP hD hS => ?_)
    have hP : va_P G.1 nn_cls [(h1, .inr (1, [.ref y1, .ref y2, .ref y3, .int (nI n)])), (y1, .inl (G.2 0, 180, .inl (upd (f1) (nI n).toNatClampNeg k))), (y2, .inl (G.2 0, 180, .inl (f2))), (y3, .inl (G.2 0, 180, .inl (f3)))] H := hP
    have hD : va_D A [(h1, .inr (1, [.ref y1, .ref y2, .ref y3, .int (nI n)])), (y1, .inl (G.2 0, 180, .inl (upd (f1) (nI n).toNatClampNeg k))), (y2, .inl (G.2 0, 180, .inl (f2))), (y3, .inl (G.2 0, 180, .inl (f3)))] := hD
    refine lv_aload_n hx hb d_Co_add_22 rfl (lv_at hl 0 rfl) ?_
    refine va_get (D := G.1) (ci := 1) (v := .ref y2) (C := R_Co) (T := T_Co) (N := 4) hx hb hg in_Co hown hK hP 0 rfl rfl 1 (by decide) (hg _ mw_207) (fun _ h9 => h9) rfl d_Co_add_23 ?_
    refine lv_aload_n hx hb d_Co_add_26 rfl (lv_at hl 0 rfl) ?_
    refine va_get (D := G.1) (ci := 1) (v := .int (nI n)) (C := R_Co) (T := T_Co) (N := 4) hx hb hg in_Co hown hK hP 0 rfl rfl 3 (by decide) (hg _ mw_209) (fun _ h9 => h9) rfl d_Co_add_27 ?_
    refine lv_iload_n hx hb d_Co_add_30 rfl (lv_at hl 2 rfl) ?_
    refine va_iast hx hb hK hP hD hS 2 0 rfl rfl (vp_in_nI (nb_ltI (b := 180) hc7 (by omega) (by decide)) (by decide)) d_Co_add_31 (fun H locs hP hD hS => ?_)
    have hP : va_P G.1 nn_cls [(h1, .inr (1, [.ref y1, .ref y2, .ref y3, .int (nI n)])), (y1, .inl (G.2 0, 180, .inl (upd (f1) (nI n).toNatClampNeg k))), (y2, .inl (G.2 0, 180, .inl (upd (f2) (nI n).toNatClampNeg i))), (y3, .inl (G.2 0, 180, .inl (f3)))] H := hP
    have hD : va_D A [(h1, .inr (1, [.ref y1, .ref y2, .ref y3, .int (nI n)])), (y1, .inl (G.2 0, 180, .inl (upd (f1) (nI n).toNatClampNeg k))), (y2, .inl (G.2 0, 180, .inl (upd (f2) (nI n).toNatClampNeg i))), (y3, .inl (G.2 0, 180, .inl (f3)))] := hD
    refine lv_aload_n hx hb d_Co_add_32 rfl (lv_at hl 0 rfl) ?_
    refine va_get (D := G.1) (ci := 1) (v := .ref y3) (C := R_Co) (T := T_Co) (N := 4) hx hb hg in_Co hown hK hP 0 rfl rfl 2 (by decide) (hg _ mw_208) (fun _ h9 => h9) rfl d_Co_add_33 ?_
    refine lv_aload_n hx hb d_Co_add_36 rfl (lv_at hl 0 rfl) ?_
    refine va_get (D := G.1) (ci := 1) (v := .int (nI n)) (C := R_Co) (T := T_Co) (N := 4) hx hb hg in_Co hown hK hP 0 rfl rfl 3 (by decide) (hg _ mw_209) (fun _ h9 => h9) rfl d_Co_add_37 ?_
    refine lv_iload_n hx hb d_Co_add_40 rfl (lv_at hl 3 rfl) ?_
    refine va_iast hx hb hK hP hD hS 3 0 rfl rfl (vp_in_nI (nb_ltI (b := 180) hc7 (by omega) (by decide)) (by decide)) d_Co_add_41 (fun H locs hP hD hS => ?_)
    have hP : va_P G.1 nn_cls [(h1, .inr (1, [.ref y1, .ref y2, .ref y3, .int (nI n)])), (y1, .inl (G.2 0, 180, .inl (upd (f1) (nI n).toNatClampNeg k))), (y2, .inl (G.2 0, 180, .inl (upd (f2) (nI n).toNatClampNeg i))), (y3, .inl (G.2 0, 180, .inl (upd (f3) (nI n).toNatClampNeg j)))] H := hP
    have hD : va_D A [(h1, .inr (1, [.ref y1, .ref y2, .ref y3, .int (nI n)])), (y1, .inl (G.2 0, 180, .inl (upd (f1) (nI n).toNatClampNeg k))), (y2, .inl (G.2 0, 180, .inl (upd (f2) (nI n).toNatClampNeg i))), (y3, .inl (G.2 0, 180, .inl (upd (f3) (nI n).toNatClampNeg j)))] := hD
    refine lv_aload_n hx hb d_Co_add_42 rfl (lv_at hl 0 rfl) ?_
    refine lv_dup hx hb d_Co_add_43 rfl ?_
    refine va_get (D := G.1) (ci := 1) (v := .int (nI n)) (C := R_Co) (T := T_Co) (N := 4) hx hb hg in_Co hown hK hP 0 rfl rfl 3 (by decide) (hg _ mw_209) (fun _ h9 => h9) rfl d_Co_add_44 ?_
    refine lv_iconst (v := 1) hx hb d_Co_add_47 (by decide) ?_
    refine lv_iadd hx hb d_Co_add_48 ?_
    refine nb_top (nI (n + 1)) (nI_1 n) ?_
    refine va_put (D := G.1) (ci := 1) (v := .int (nI (n + 1))) (ty := .int) (C := R_Co) (T := T_Co) (N := 4) hx hb hg in_Co t_Co ok_Co nm_Co hown hK hP hD hS 0 rfl rfl 3 (by decide) (hg _ mw_209) (fun _ h9 => h9) rfl (by decide +kernel) rfl rfl (Nat.le_of_ble_eq_true rfl) d_Co_add_49 (fun H locs hP hD hS => ?_)
    have hP : va_P G.1 nn_cls [(h1, .inr (1, [.ref y1, .ref y2, .ref y3, .int (nI (n + 1))])), (y1, .inl (G.2 0, 180, .inl (upd (f1) (nI n).toNatClampNeg k))), (y2, .inl (G.2 0, 180, .inl (upd (f2) (nI n).toNatClampNeg i))), (y3, .inl (G.2 0, 180, .inl (upd (f3) (nI n).toNatClampNeg j)))] H := hP
    have hD : va_D A [(h1, .inr (1, [.ref y1, .ref y2, .ref y3, .int (nI (n + 1))])), (y1, .inl (G.2 0, 180, .inl (upd (f1) (nI n).toNatClampNeg k))), (y2, .inl (G.2 0, 180, .inl (upd (f2) (nI n).toNatClampNeg i))), (y3, .inl (G.2 0, 180, .inl (upd (f3) (nI n).toNatClampNeg j)))] := hD
    refine lv_aload_n hx hb d_Co_add_52 rfl (lv_at hl 0 rfl) ?_
    refine va_get (D := G.1) (ci := 1) (v := .int (nI (n + 1))) (C := R_Co) (T := T_Co) (N := 4) hx hb hg in_Co hown hK hP 0 rfl rfl 3 (by decide) (hg _ mw_209) (fun _ h9 => h9) rfl d_Co_add_53 ?_
    refine lv_iconst (v := 1) hx hb d_Co_add_56 (by decide) ?_
    refine lv_isub hx hb d_Co_add_57 ?_
    refine W.widen (k := 0) (n := 0) (Nat.le_of_ble_eq_true rfl) (Nat.le_of_ble_eq_true rfl) ?_
    have hP9 := hP.sub (ws' := [(h1, .inr (1, [.ref y1, .ref y2, .ref y3, .int (nI (n + 1))])), (y1, .inl (G.2 0, 180, .inl (upd (f1) (nI n).toNatClampNeg k))), (y2, .inl (G.2 0, 180, .inl (upd (f2) (nI n).toNatClampNeg i))), (y3, .inl (G.2 0, 180, .inl (upd (f3) (nI n).toNatClampNeg j)))]) [0, 1, 2, 3] rfl
    have hD9 := hD.sub (ws' := [(h1, .inr (1, [.ref y1, .ref y2, .ref y3, .int (nI (n + 1))])), (y1, .inl (G.2 0, 180, .inl (upd (f1) (nI n).toNatClampNeg k))), (y2, .inl (G.2 0, 180, .inl (upd (f2) (nI n).toNatClampNeg i))), (y3, .inl (G.2 0, 180, .inl (upd (f3) (nI n).toNatClampNeg j)))]) [0, 1, 2, 3] (by decide) rfl
    exact W.iret (v := (nI (n + 1)) - 1) hx hb hr (fun t ht hW => ⟨⟨(nI (n + 1)) - 1, ((upd (f1) (nI n).toNatClampNeg k), (upd (f2) (nI n).toNatClampNeg i), (upd (f3) (nI n).toNatClampNeg j), n + 1), rfl, (show n + 1 ≤ 180 by have := nb_ltI (b := 180) hc7 (by omega) (by decide); omega), ⟨by rw [ht]; exact hP9, hD9⟩⟩, hS.F ht⟩) hS.2.2 d_Co_add_58
  · skip
    refine lv_iconst (v := (-1)) hx hb d_Co_add_10 (by decide) ?_
    refine W.widen (k := 0) (n := 0) (Nat.le_of_ble_eq_true rfl) (Nat.le_of_ble_eq_true rfl) ?_
    have hP9 := hP.sub (ws' := [(h1, .inr (1, [.ref y1, .ref y2, .ref y3, .int (nI n)])), (y1, .inl (G.2 0, 180, .inl (f1))), (y2, .inl (G.2 0, 180, .inl (f2))), (y3, .inl (G.2 0, 180, .inl (f3)))]) [0, 1, 2, 3] rfl
    have hD9 := hD.sub (ws' := [(h1, .inr (1, [.ref y1, .ref y2, .ref y3, .int (nI n)])), (y1, .inl (G.2 0, 180, .inl (f1))), (y2, .inl (G.2 0, 180, .inl (f2))), (y3, .inl (G.2 0, 180, .inl (f3)))]) [0, 1, 2, 3] (by decide) rfl
    exact W.iret (v := (-1)) hx hb hr (fun t ht hW => ⟨⟨(-1), (f1, f2, f3, n), rfl, (show n ≤ 180 by omega), ⟨by rw [ht]; exact hP9, hD9⟩⟩, hS.F ht⟩) hS.2.2 d_Co_add_11
