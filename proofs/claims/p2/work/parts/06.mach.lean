/-! contracts (by wip/p1/gen.py) -/
theorem mw_246 : (.fieldLink R_Ma 11 R_Ma "cells" "[I" : Cond) ∈ nn_gw := nn_at 246 (by decide +kernel) (by decide +kernel)
theorem d_Ma_at_0 : decode b_Ma_at 0 = .ok (.iload_n 1, 1) := by decide +kernel
theorem d_Ma_at_1 : decode b_Ma_at 1 = .ok (.ifCond .lt 19, 3) := by decide +kernel
theorem d_Ma_at_4 : decode b_Ma_at 4 = .ok (.iload_n 1, 1) := by decide +kernel
theorem d_Ma_at_5 : decode b_Ma_at 5 = .ok (.sipush 200, 3) := by decide +kernel
theorem d_Ma_at_8 : decode b_Ma_at 8 = .ok (.if_icmp .ge 12, 3) := by decide +kernel
theorem d_Ma_at_11 : decode b_Ma_at 11 = .ok (.aload_n 0, 1) := by decide +kernel
theorem d_Ma_at_12 : decode b_Ma_at 12 = .ok (.getfield 11, 3) := by decide +kernel
theorem d_Ma_at_15 : decode b_Ma_at 15 = .ok (.iload_n 1, 1) := by decide +kernel
theorem d_Ma_at_16 : decode b_Ma_at 16 = .ok (.iaload, 1) := by decide +kernel
theorem d_Ma_at_17 : decode b_Ma_at 17 = .ok (.goto 4, 3) := by decide +kernel
theorem d_Ma_at_20 : decode b_Ma_at 20 = .ok (.iconst 0, 1) := by decide +kernel
theorem d_Ma_at_21 : decode b_Ma_at 21 = .ok (.ireturn, 1) := by decide +kernel

set_option maxHeartbeats 4000000 in
set_option maxRecDepth 100000 in
theorem g_Ma_at (l : Launch) (G : nn_G) (sz : Nat) (h0 x1 x2 : Nat) (f g : Nat → Int32) (v1 v2 v3 v4 v5 : Int32) (oc : Nat) (k : Int32) : Met l y_Ma_at w_Ma_at ({ frames := 0, cells := 0, slots := 0, locals := 0 }) (nn_P G [.ref h0, .int k] [(h0, .inr (3, [.ref x1, .ref x2, .int v1, .int v2, .int v3, .int v4, .int v5, .int (nI oc)])), (x1, .inl (G.2 0, 200, .inl (f))), (x2, .inl (G.2 0, 8, .inl (g)))] sz) (vp_Si (fun r => True)) 0 0 (fun _ => False) := by
  refine Met.ofW (cc := b_Ma_at) (maxL := 2) (ret := some .int) (by decide) rfl ?_
  intro p e s m args below meth c s₁ B hml hv
  obtain ⟨rfl, hsz, hP, hK, hD0, hN⟩ := hv
  have hx := B.exec
  have hb := B.bytes
  have hr := B.returns
  have hts := atoms_spec (ws := w_Ma_at) B.pre
  have hg : ∀ w ∈ nn_gw, w.before _ s = true := fun w h => hts w (List.mem_cons_of_mem _ h)
  have hown : s.vm.findClass R_Ma = some m.cls := findClass_of_methodNamed B.named
  have hlocks := B.notSynchronized
  subst hsz
  have hD := hD0
  generalize hAe : (fun _ : Nat => True) = A at hD
  have hA : ∀ q : Nat, s.heap.size ≤ q → A q := fun q h => by rw [← hAe]; trivial
  have hS : va_S A s.heap s.heap [] := va_S.rf
  have hP : va_P G.1 nn_cls [(h0, .inr (3, [.ref x1, .ref x2, .int v1, .int v2, .int v3, .int v4, .int v5, .int (nI oc)])), (x1, .inl (G.2 0, 200, .inl (f))), (x2, .inl (G.2 0, 8, .inl (g)))] s.heap := hP
  have hl := lv_entry ([.ref h0, .int k]) (n := 2) (Nat.le_of_ble_eq_true rfl)
  rw [lg_entry_eq]
  generalize (lg_sl ([.ref h0, .int k]) ++ List.replicate (2 - (lg_sl ([.ref h0, .int k])).length) Slot.unset).toArray = ls at hl ⊢
  have hl : lv_has ls 2 [(0, .ref h0), (1, .int k)] := hl
  refine lv_iload_n hx hb d_Ma_at_0 rfl (lv_at hl 1 rfl) ?_
  refine lv_if_lt (tgt := 20) hx hb d_Ma_at_1 rfl (fun hc1 => ?_) (fun hc1 => ?_)
  · skip
    refine lv_iconst (v := 0) hx hb d_Ma_at_20 (by decide) ?_
    exact W.iret (v := 0) hx hb hr (fun t ht hW => ⟨0, rfl, trivial, ht⟩) (fun q h => by cases h) d_Ma_at_21
  · skip
    refine lv_iload_n hx hb d_Ma_at_4 rfl (lv_at hl 1 rfl) ?_
    refine lv_sipush (v := 200) hx hb d_Ma_at_5 (by decide) ?_
    refine lv_icmp_ge (tgt := 20) hx hb d_Ma_at_8 rfl (fun hc8 => ?_) (fun hc8 => ?_)
    · skip
      refine lv_iconst (v := 0) hx hb d_Ma_at_20 (by decide) ?_
      exact W.iret (v := 0) hx hb hr (fun t ht hW => ⟨0, rfl, trivial, ht⟩) (fun q h => by cases h) d_Ma_at_21
    · skip
      refine lv_aload_n hx hb d_Ma_at_11 rfl (lv_at hl 0 rfl) ?_
      refine va_get (D := G.1) (ci := 3) (v := .ref x1) (C := R_Ma) (T := T_Ma) (N := 8) hx hb hg in_Ma hown hK hP 0 rfl rfl 0 (by decide) (hg _ mw_246) (fun _ h9 => h9) rfl d_Ma_at_12 ?_
      refine lv_iload_n hx hb d_Ma_at_15 rfl (lv_at hl 1 rfl) ?_
      refine va_iald hx hb hK hP 1 0 rfl rfl (nb_inr (n := 200) hc1 hc8 (by decide)) d_Ma_at_16 ?_
      refine lv_goto (tgt := 21) hx hb d_Ma_at_17 rfl ?_
      exact W.iret (v := (f) k.toNatClampNeg) hx hb hr (fun t ht hW => ⟨(f) k.toNatClampNeg, rfl, trivial, ht⟩) (fun q h => by cases h) d_Ma_at_21

theorem d_Ma_put_0 : decode b_Ma_put 0 = .ok (.iload_n 1, 1) := by decide +kernel
theorem d_Ma_put_1 : decode b_Ma_put 1 = .ok (.ifCond .lt 17, 3) := by decide +kernel
theorem d_Ma_put_4 : decode b_Ma_put 4 = .ok (.iload_n 1, 1) := by decide +kernel
theorem d_Ma_put_5 : decode b_Ma_put 5 = .ok (.sipush 200, 3) := by decide +kernel
theorem d_Ma_put_8 : decode b_Ma_put 8 = .ok (.if_icmp .ge 10, 3) := by decide +kernel
theorem d_Ma_put_11 : decode b_Ma_put 11 = .ok (.aload_n 0, 1) := by decide +kernel
theorem d_Ma_put_12 : decode b_Ma_put 12 = .ok (.getfield 11, 3) := by decide +kernel
theorem d_Ma_put_15 : decode b_Ma_put 15 = .ok (.iload_n 1, 1) := by decide +kernel
theorem d_Ma_put_16 : decode b_Ma_put 16 = .ok (.iload_n 2, 1) := by decide +kernel
theorem d_Ma_put_17 : decode b_Ma_put 17 = .ok (.iastore, 1) := by decide +kernel
theorem d_Ma_put_18 : decode b_Ma_put 18 = .ok (.return_, 1) := by decide +kernel

set_option maxHeartbeats 4000000 in
set_option maxRecDepth 100000 in
theorem g_Ma_put (l : Launch) (G : nn_G) (sz : Nat) (h0 x1 x2 : Nat) (f g : Nat → Int32) (v1 v2 v3 v4 v5 : Int32) (oc : Nat) (k j : Int32) : Met l y_Ma_put w_Ma_put ({ frames := 0, cells := 0, slots := 0, locals := 0 }) (nn_P G [.ref h0, .int k, .int j] [(h0, .inr (3, [.ref x1, .ref x2, .int v1, .int v2, .int v3, .int v4, .int v5, .int (nI oc)])), (x1, .inl (G.2 0, 200, .inl (f))), (x2, .inl (G.2 0, 8, .inl (g)))] sz) (va_Qv (fun u : (Nat → Int32) × (Nat → Int32) × Int32 × Int32 × Int32 × Int32 × Int32 × Nat => u.2.2.2.2.2.2.2 = oc) (fun u t => va_P G.1 nn_cls [(h0, .inr (3, [.ref x1, .ref x2, .int u.2.2.1, .int u.2.2.2.1, .int u.2.2.2.2.1, .int u.2.2.2.2.2.1, .int u.2.2.2.2.2.2.1, .int (nI u.2.2.2.2.2.2.2)])), (x1, .inl (G.2 0, 200, .inl (u.1))), (x2, .inl (G.2 0, 8, .inl (u.2.1)))] t.heap ∧ va_D (va_A [(h0, .inr (3, [.ref x1, .ref x2, .int v1, .int v2, .int v3, .int v4, .int v5, .int (nI oc)])), (x1, .inl (G.2 0, 200, .inl (f))), (x2, .inl (G.2 0, 8, .inl (g)))] sz) [(h0, .inr (3, [.ref x1, .ref x2, .int u.2.2.1, .int u.2.2.2.1, .int u.2.2.2.2.1, .int u.2.2.2.2.2.1, .int u.2.2.2.2.2.2.1, .int (nI u.2.2.2.2.2.2.2)])), (x1, .inl (G.2 0, 200, .inl (u.1))), (x2, .inl (G.2 0, 8, .inl (u.2.1)))]) (va_A [(h0, .inr (3, [.ref x1, .ref x2, .int v1, .int v2, .int v3, .int v4, .int v5, .int (nI oc)])), (x1, .inl (G.2 0, 200, .inl (f))), (x2, .inl (G.2 0, 8, .inl (g)))] sz)) 0 0 (va_A [(h0, .inr (3, [.ref x1, .ref x2, .int v1, .int v2, .int v3, .int v4, .int v5, .int (nI oc)])), (x1, .inl (G.2 0, 200, .inl (f))), (x2, .inl (G.2 0, 8, .inl (g)))] sz) := by
  refine Met.ofW (cc := b_Ma_put) (maxL := 3) (ret := none) (by decide) rfl ?_
  intro p e s m args below meth c s₁ B hml hv
  obtain ⟨rfl, hsz, hP, hK, hD0, hN⟩ := hv
  have hx := B.exec
  have hb := B.bytes
  have hr := B.returns
  have hts := atoms_spec (ws := w_Ma_put) B.pre
  have hg : ∀ w ∈ nn_gw, w.before _ s = true := fun w h => hts w (List.mem_cons_of_mem _ h)
  have hown : s.vm.findClass R_Ma = some m.cls := findClass_of_methodNamed B.named
  have hlocks := B.notSynchronized
  subst hsz
  have hD := hD0.self (sz := s.heap.size)
  generalize hAe : va_A [(h0, .inr (3, [.ref x1, .ref x2, .int v1, .int v2, .int v3, .int v4, .int v5, .int (nI oc)])), (x1, .inl (G.2 0, 200, .inl (f))), (x2, .inl (G.2 0, 8, .inl (g)))] s.heap.size = A at hD ⊢
  have hA : ∀ q : Nat, s.heap.size ≤ q → A q := fun q h => by rw [← hAe]; exact Or.inr h
  have hS : va_S A s.heap s.heap [] := va_S.rf
  have hP : va_P G.1 nn_cls [(h0, .inr (3, [.ref x1, .ref x2, .int v1, .int v2, .int v3, .int v4, .int v5, .int (nI oc)])), (x1, .inl (G.2 0, 200, .inl (f))), (x2, .inl (G.2 0, 8, .inl (g)))] s.heap := hP
  have hl := lv_entry ([.ref h0, .int k, .int j]) (n := 3) (Nat.le_of_ble_eq_true rfl)
  rw [lg_entry_eq]
  generalize (lg_sl ([.ref h0, .int k, .int j]) ++ List.replicate (3 - (lg_sl ([.ref h0, .int k, .int j])).length) Slot.unset).toArray = ls at hl ⊢
  have hl : lv_has ls 3 [(0, .ref h0), (1, .int k), (2, .int j)] := hl
  refine lv_iload_n hx hb d_Ma_put_0 rfl (lv_at hl 1 rfl) ?_
  refine lv_if_lt (tgt := 18) hx hb d_Ma_put_1 rfl (fun hc1 => ?_) (fun hc1 => ?_)
  · skip
    refine W.widen (k := 0) (n := 0) (Nat.le_of_ble_eq_true rfl) (Nat.le_of_ble_eq_true rfl) ?_
    have hP9 := hP.sub (ws' := [(h0, .inr (3, [.ref x1, .ref x2, .int v1, .int v2, .int v3, .int v4, .int v5, .int (nI oc)])), (x1, .inl (G.2 0, 200, .inl (f))), (x2, .inl (G.2 0, 8, .inl (g)))]) [0, 1, 2] rfl
    have hD9 := hD.sub (ws' := [(h0, .inr (3, [.ref x1, .ref x2, .int v1, .int v2, .int v3, .int v4, .int v5, .int (nI oc)])), (x1, .inl (G.2 0, 200, .inl (f))), (x2, .inl (G.2 0, 8, .inl (g)))]) [0, 1, 2] (by decide) rfl
    exact W.vret hx hb hr (fun t ht hW => ⟨⟨(f, g, v1, v2, v3, v4, v5, oc), rfl, rfl, ⟨by rw [ht]; exact hP9, hD9⟩⟩, hS.F ht⟩) hS.2.2 d_Ma_put_18
  · skip
    refine lv_iload_n hx hb d_Ma_put_4 rfl (lv_at hl 1 rfl) ?_
    refine lv_sipush (v := 200) hx hb d_Ma_put_5 (by decide) ?_
    refine lv_icmp_ge (tgt := 18) hx hb d_Ma_put_8 rfl (fun hc8 => ?_) (fun hc8 => ?_)
    · skip
      refine W.widen (k := 0) (n := 0) (Nat.le_of_ble_eq_true rfl) (Nat.le_of_ble_eq_true rfl) ?_
      have hP9 := hP.sub (ws' := [(h0, .inr (3, [.ref x1, .ref x2, .int v1, .int v2, .int v3, .int v4, .int v5, .int (nI oc)])), (x1, .inl (G.2 0, 200, .inl (f))), (x2, .inl (G.2 0, 8, .inl (g)))]) [0, 1, 2] rfl
      have hD9 := hD.sub (ws' := [(h0, .inr (3, [.ref x1, .ref x2, .int v1, .int v2, .int v3, .int v4, .int v5, .int (nI oc)])), (x1, .inl (G.2 0, 200, .inl (f))), (x2, .inl (G.2 0, 8, .inl (g)))]) [0, 1, 2] (by decide) rfl
      exact W.vret hx hb hr (fun t ht hW => ⟨⟨(f, g, v1, v2, v3, v4, v5, oc), rfl, rfl, ⟨by rw [ht]; exact hP9, hD9⟩⟩, hS.F ht⟩) hS.2.2 d_Ma_put_18
    · skip
      refine lv_aload_n hx hb d_Ma_put_11 rfl (lv_at hl 0 rfl) ?_
      refine va_get (D := G.1) (ci := 3) (v := .ref x1) (C := R_Ma) (T := T_Ma) (N := 8) hx hb hg in_Ma hown hK hP 0 rfl rfl 0 (by decide) (hg _ mw_246) (fun _ h9 => h9) rfl d_Ma_put_12 ?_
      refine lv_iload_n hx hb d_Ma_put_15 rfl (lv_at hl 1 rfl) ?_
      refine lv_iload_n hx hb d_Ma_put_16 rfl (lv_at hl 2 rfl) ?_
      refine va_iast hx hb hK hP hD hS 1 0 rfl rfl (nb_inr (n := 200) hc1 hc8 (by decide)) d_Ma_put_17 (fun H locs hP hD hS => ?_)
      have hP : va_P G.1 nn_cls [(h0, .inr (3, [.ref x1, .ref x2, .int v1, .int v2, .int v3, .int v4, .int v5, .int (nI oc)])), (x1, .inl (G.2 0, 200, .inl (upd (f) k.toNatClampNeg j))), (x2, .inl (G.2 0, 8, .inl (g)))] H := hP
      have hD : va_D A [(h0, .inr (3, [.ref x1, .ref x2, .int v1, .int v2, .int v3, .int v4, .int v5, .int (nI oc)])), (x1, .inl (G.2 0, 200, .inl (upd (f) k.toNatClampNeg j))), (x2, .inl (G.2 0, 8, .inl (g)))] := hD
      refine W.widen (k := 0) (n := 0) (Nat.le_of_ble_eq_true rfl) (Nat.le_of_ble_eq_true rfl) ?_
      have hP9 := hP.sub (ws' := [(h0, .inr (3, [.ref x1, .ref x2, .int v1, .int v2, .int v3, .int v4, .int v5, .int (nI oc)])), (x1, .inl (G.2 0, 200, .inl (upd (f) k.toNatClampNeg j))), (x2, .inl (G.2 0, 8, .inl (g)))]) [0, 1, 2] rfl
      have hD9 := hD.sub (ws' := [(h0, .inr (3, [.ref x1, .ref x2, .int v1, .int v2, .int v3, .int v4, .int v5, .int (nI oc)])), (x1, .inl (G.2 0, 200, .inl (upd (f) k.toNatClampNeg j))), (x2, .inl (G.2 0, 8, .inl (g)))]) [0, 1, 2] (by decide) rfl
      exact W.vret hx hb hr (fun t ht hW => ⟨⟨((upd (f) k.toNatClampNeg j), g, v1, v2, v3, v4, v5, oc), rfl, rfl, ⟨by rw [ht]; exact hP9, hD9⟩⟩, hS.F ht⟩) hS.2.2 d_Ma_put_18

theorem mw_2 : (.selects R_Ma y_Ma_at y_Ma_at : Cond) ∈ nn_gw := nn_at 2 (by decide +kernel) (by decide +kernel)
theorem mw_93 : (.initialized R_Ma : Cond) ∈ nn_gw := nn_at 93 (by decide +kernel) (by decide +kernel)
theorem mw_251 : (.fieldLink R_Ma 28 R_Ma "top" "I" : Cond) ∈ nn_gw := nn_at 251 (by decide +kernel) (by decide +kernel)
theorem mw_365 : (.methodLink R_Ma 46 y_Ma_at : Cond) ∈ nn_gw := nn_at 365 (by decide +kernel) (by decide +kernel)
theorem mw_367 : (.instanceMethod y_Ma_at : Cond) ∈ nn_gw := nn_at 367 (by decide +kernel) (by decide +kernel)
theorem mw_368 : (.code y_Ma_at b_Ma_at 2 (some .int) : Cond) ∈ nn_gw := nn_at 368 (by decide +kernel) (by decide +kernel)
theorem d_Ma_pop_0 : decode b_Ma_pop 0 = .ok (.aload_n 0, 1) := by decide +kernel
theorem d_Ma_pop_1 : decode b_Ma_pop 1 = .ok (.aload_n 0, 1) := by decide +kernel
theorem d_Ma_pop_2 : decode b_Ma_pop 2 = .ok (.getfield 28, 3) := by decide +kernel
theorem d_Ma_pop_5 : decode b_Ma_pop 5 = .ok (.invokevirtual 46, 3) := by decide +kernel
theorem d_Ma_pop_8 : decode b_Ma_pop 8 = .ok (.istore_n 1, 1) := by decide +kernel
theorem d_Ma_pop_9 : decode b_Ma_pop 9 = .ok (.aload_n 0, 1) := by decide +kernel
theorem d_Ma_pop_10 : decode b_Ma_pop 10 = .ok (.dup, 1) := by decide +kernel
theorem d_Ma_pop_11 : decode b_Ma_pop 11 = .ok (.getfield 28, 3) := by decide +kernel
theorem d_Ma_pop_14 : decode b_Ma_pop 14 = .ok (.iconst 1, 1) := by decide +kernel
theorem d_Ma_pop_15 : decode b_Ma_pop 15 = .ok (.isub, 1) := by decide +kernel
theorem d_Ma_pop_16 : decode b_Ma_pop 16 = .ok (.putfield 28, 3) := by decide +kernel
theorem d_Ma_pop_19 : decode b_Ma_pop 19 = .ok (.iload_n 1, 1) := by decide +kernel
theorem d_Ma_pop_20 : decode b_Ma_pop 20 = .ok (.ireturn, 1) := by decide +kernel

set_option maxHeartbeats 4000000 in
set_option maxRecDepth 100000 in
theorem g_Ma_pop (l : Launch) (G : nn_G) (sz : Nat) (h0 x1 x2 : Nat) (f g : Nat → Int32) (v1 v2 v3 v4 v5 : Int32) (oc : Nat) : Met l y_Ma_pop w_Ma_pop ({ frames := 1, cells := 0, slots := 0, locals := 21 }) (nn_P G [.ref h0] [(h0, .inr (3, [.ref x1, .ref x2, .int v1, .int v2, .int v3, .int v4, .int v5, .int (nI oc)])), (x1, .inl (G.2 0, 200, .inl (f))), (x2, .inl (G.2 0, 8, .inl (g)))] sz) (va_Qi (fun (r : Int32) (u : (Nat → Int32) × (Nat → Int32) × Int32 × Int32 × Int32 × Int32 × Int32 × Nat) => u.2.2.2.2.2.2.2 = oc) (fun u t => va_P G.1 nn_cls [(h0, .inr (3, [.ref x1, .ref x2, .int u.2.2.1, .int u.2.2.2.1, .int u.2.2.2.2.1, .int u.2.2.2.2.2.1, .int u.2.2.2.2.2.2.1, .int (nI u.2.2.2.2.2.2.2)])), (x1, .inl (G.2 0, 200, .inl (u.1))), (x2, .inl (G.2 0, 8, .inl (u.2.1)))] t.heap ∧ va_D (va_A [(h0, .inr (3, [.ref x1, .ref x2, .int v1, .int v2, .int v3, .int v4, .int v5, .int (nI oc)])), (x1, .inl (G.2 0, 200, .inl (f))), (x2, .inl (G.2 0, 8, .inl (g)))] sz) [(h0, .inr (3, [.ref x1, .ref x2, .int u.2.2.1, .int u.2.2.2.1, .int u.2.2.2.2.1, .int u.2.2.2.2.2.1, .int u.2.2.2.2.2.2.1, .int (nI u.2.2.2.2.2.2.2)])), (x1, .inl (G.2 0, 200, .inl (u.1))), (x2, .inl (G.2 0, 8, .inl (u.2.1)))]) (va_A [(h0, .inr (3, [.ref x1, .ref x2, .int v1, .int v2, .int v3, .int v4, .int v5, .int (nI oc)])), (x1, .inl (G.2 0, 200, .inl (f))), (x2, .inl (G.2 0, 8, .inl (g)))] sz)) 0 0 (va_A [(h0, .inr (3, [.ref x1, .ref x2, .int v1, .int v2, .int v3, .int v4, .int v5, .int (nI oc)])), (x1, .inl (G.2 0, 200, .inl (f))), (x2, .inl (G.2 0, 8, .inl (g)))] sz) := by
  refine Met.ofW (cc := b_Ma_pop) (maxL := 2) (ret := some .int) (by decide) rfl ?_
  intro p e s m args below meth c s₁ B hml hv
  obtain ⟨rfl, hsz, hP, hK, hD0, hN⟩ := hv
  have hx := B.exec
  have hb := B.bytes
  have hr := B.returns
  have hts := atoms_spec (ws := w_Ma_pop) B.pre
  have hg : ∀ w ∈ nn_gw, w.before _ s = true := fun w h => hts w (List.mem_cons_of_mem _ h)
  have hown : s.vm.findClass R_Ma = some m.cls := findClass_of_methodNamed B.named
  have hlocks := B.notSynchronized
  subst hsz
  have hD := hD0.self (sz := s.heap.size)
  generalize hAe : va_A [(h0, .inr (3, [.ref x1, .ref x2, .int v1, .int v2, .int v3, .int v4, .int v5, .int (nI oc)])), (x1, .inl (G.2 0, 200, .inl (f))), (x2, .inl (G.2 0, 8, .inl (g)))] s.heap.size = A at hD ⊢
  have hA : ∀ q : Nat, s.heap.size ≤ q → A q := fun q h => by rw [← hAe]; exact Or.inr h
  have hS : va_S A s.heap s.heap [] := va_S.rf
  have hP : va_P G.1 nn_cls [(h0, .inr (3, [.ref x1, .ref x2, .int v1, .int v2, .int v3, .int v4, .int v5, .int (nI oc)])), (x1, .inl (G.2 0, 200, .inl (f))), (x2, .inl (G.2 0, 8, .inl (g)))] s.heap := hP
  have hl := lv_entry ([.ref h0]) (n := 2) (Nat.le_of_ble_eq_true rfl)
  rw [lg_entry_eq]
  generalize (lg_sl ([.ref h0]) ++ List.replicate (2 - (lg_sl ([.ref h0])).length) Slot.unset).toArray = ls at hl ⊢
  have hl : lv_has ls 2 [(0, .ref h0)] := hl
  refine lv_aload_n hx hb d_Ma_pop_0 rfl (lv_at hl 0 rfl) ?_
  refine lv_aload_n hx hb d_Ma_pop_1 rfl (lv_at hl 0 rfl) ?_
  refine va_get (D := G.1) (ci := 3) (v := .int v4) (C := R_Ma) (T := T_Ma) (N := 8) hx hb hg in_Ma hown hK hP 0 rfl rfl 5 (by decide) (hg _ mw_251) (fun _ h9 => h9) rfl d_Ma_pop_2 ?_
  have hPc := hP.sub (ws' := [(h0, .inr (3, [.ref x1, .ref x2, .int v1, .int v2, .int v3, .int v4, .int v5, .int (nI oc)])), (x1, .inl (G.2 0, 200, .inl (f))), (x2, .inl (G.2 0, 8, .inl (g)))]) [0, 1, 2] rfl
  have hDc := hD.sub (ws' := [(h0, .inr (3, [.ref x1, .ref x2, .int v1, .int v2, .int v3, .int v4, .int v5, .int (nI oc)])), (x1, .inl (G.2 0, 200, .inl (f))), (x2, .inl (G.2 0, 8, .inl (g)))]) [0, 1, 2] (by decide) rfl
  refine vp_callSi (va_Run.run (va_runV (As := [.int v4]) (rest := []) ⟨hx, hb, hml, hown, hts⟩ (g_Ma_at l G _ h0 x1 x2 f g v1 v2 v3 v4 v5 oc v4) (cwV 1 hts (nn_gV mw_368 mw_365 mw_367 mw_2 mw_93) rfl rfl rfl (by decide +kernel) ⟨Nat.le_of_ble_eq_true rfl, Nat.le_of_ble_eq_true rfl⟩) (nn_preV (va_recv hK hP rfl (q0 := 0) rfl) hPc hDc hK hN) rfl rfl hl.1 rfl (lv_room (Nat.le_of_ble_eq_true rfl)) d_Ma_pop_5 ⟨(Nat.le_of_ble_eq_true rfl), (Nat.le_of_ble_eq_true rfl)⟩)) (fun r1 er1 => ?_)
  refine lv_istore_n (lv' := [(1, .int r1), (0, .ref h0)]) hx hb d_Ma_pop_8 rfl hl (by decide) rfl (fun ls hl => ?_)
  refine lv_aload_n hx hb d_Ma_pop_9 rfl (lv_at hl 1 rfl) ?_
  refine lv_dup hx hb d_Ma_pop_10 rfl ?_
  refine va_get (D := G.1) (ci := 3) (v := .int v4) (C := R_Ma) (T := T_Ma) (N := 8) hx hb hg in_Ma hown hK hP 0 rfl rfl 5 (by decide) (hg _ mw_251) (fun _ h9 => h9) rfl d_Ma_pop_11 ?_
  refine lv_iconst (v := 1) hx hb d_Ma_pop_14 (by decide) ?_
  refine lv_isub hx hb d_Ma_pop_15 ?_
  refine va_put (D := G.1) (ci := 3) (v := .int (v4 - 1)) (ty := .int) (C := R_Ma) (T := T_Ma) (N := 8) hx hb hg in_Ma t_Ma ok_Ma nm_Ma hown hK hP hD hS 0 rfl rfl 5 (by decide) (hg _ mw_251) (fun _ h9 => h9) rfl (by decide +kernel) rfl rfl (Nat.le_of_ble_eq_true rfl) d_Ma_pop_16 (fun H locs hP hD hS => ?_)
  have hP : va_P G.1 nn_cls [(h0, .inr (3, [.ref x1, .ref x2, .int v1, .int v2, .int v3, .int (v4 - 1), .int v5, .int (nI oc)])), (x1, .inl (G.2 0, 200, .inl (f))), (x2, .inl (G.2 0, 8, .inl (g)))] H := hP
  have hD : va_D A [(h0, .inr (3, [.ref x1, .ref x2, .int v1, .int v2, .int v3, .int (v4 - 1), .int v5, .int (nI oc)])), (x1, .inl (G.2 0, 200, .inl (f))), (x2, .inl (G.2 0, 8, .inl (g)))] := hD
  refine lv_iload_n hx hb d_Ma_pop_19 rfl (lv_at hl 0 rfl) ?_
  refine W.widen (k := 0) (n := 0) (Nat.le_of_ble_eq_true rfl) (Nat.le_of_ble_eq_true rfl) ?_
  have hP9 := hP.sub (ws' := [(h0, .inr (3, [.ref x1, .ref x2, .int v1, .int v2, .int v3, .int (v4 - 1), .int v5, .int (nI oc)])), (x1, .inl (G.2 0, 200, .inl (f))), (x2, .inl (G.2 0, 8, .inl (g)))]) [0, 1, 2] rfl
  have hD9 := hD.sub (ws' := [(h0, .inr (3, [.ref x1, .ref x2, .int v1, .int v2, .int v3, .int (v4 - 1), .int v5, .int (nI oc)])), (x1, .inl (G.2 0, 200, .inl (f))), (x2, .inl (G.2 0, 8, .inl (g)))]) [0, 1, 2] (by decide) rfl
  exact W.iret (v := r1) hx hb hr (fun t ht hW => ⟨⟨r1, (f, g, v1, v2, v3, (v4 - 1), v5, oc), rfl, rfl, ⟨by rw [ht]; exact hP9, hD9⟩⟩, hS.F ht⟩) hS.2.2 d_Ma_pop_20

theorem mw_39 : (.selects R_Ma y_Ma_put y_Ma_put : Cond) ∈ nn_gw := nn_at 39 (by decide +kernel) (by decide +kernel)
theorem mw_853 : (.methodLink R_Ma 83 y_Ma_put : Cond) ∈ nn_gw := nn_at 853 (by decide +kernel) (by decide +kernel)
theorem mw_855 : (.instanceMethod y_Ma_put : Cond) ∈ nn_gw := nn_at 855 (by decide +kernel) (by decide +kernel)
theorem mw_856 : (.code y_Ma_put b_Ma_put 3 none : Cond) ∈ nn_gw := nn_at 856 (by decide +kernel) (by decide +kernel)
theorem d_Ma_push_0 : decode b_Ma_push 0 = .ok (.aload_n 0, 1) := by decide +kernel
theorem d_Ma_push_1 : decode b_Ma_push 1 = .ok (.aload_n 0, 1) := by decide +kernel
theorem d_Ma_push_2 : decode b_Ma_push 2 = .ok (.getfield 28, 3) := by decide +kernel
theorem d_Ma_push_5 : decode b_Ma_push 5 = .ok (.iconst 1, 1) := by decide +kernel
theorem d_Ma_push_6 : decode b_Ma_push 6 = .ok (.iadd, 1) := by decide +kernel
theorem d_Ma_push_7 : decode b_Ma_push 7 = .ok (.iload_n 1, 1) := by decide +kernel
theorem d_Ma_push_8 : decode b_Ma_push 8 = .ok (.invokevirtual 83, 3) := by decide +kernel
theorem d_Ma_push_11 : decode b_Ma_push 11 = .ok (.aload_n 0, 1) := by decide +kernel
theorem d_Ma_push_12 : decode b_Ma_push 12 = .ok (.dup, 1) := by decide +kernel
theorem d_Ma_push_13 : decode b_Ma_push 13 = .ok (.getfield 28, 3) := by decide +kernel
theorem d_Ma_push_16 : decode b_Ma_push 16 = .ok (.iconst 1, 1) := by decide +kernel
theorem d_Ma_push_17 : decode b_Ma_push 17 = .ok (.iadd, 1) := by decide +kernel
theorem d_Ma_push_18 : decode b_Ma_push 18 = .ok (.putfield 28, 3) := by decide +kernel
theorem d_Ma_push_21 : decode b_Ma_push 21 = .ok (.return_, 1) := by decide +kernel

set_option maxHeartbeats 4000000 in
set_option maxRecDepth 100000 in
theorem g_Ma_push (l : Launch) (G : nn_G) (sz : Nat) (h0 x1 x2 : Nat) (f g : Nat → Int32) (v1 v2 v3 v4 v5 : Int32) (oc : Nat) (k : Int32) : Met l y_Ma_push w_Ma_push ({ frames := 1, cells := 0, slots := 0, locals := 22 }) (nn_P G [.ref h0, .int k] [(h0, .inr (3, [.ref x1, .ref x2, .int v1, .int v2, .int v3, .int v4, .int v5, .int (nI oc)])), (x1, .inl (G.2 0, 200, .inl (f))), (x2, .inl (G.2 0, 8, .inl (g)))] sz) (va_Qv (fun u : (Nat → Int32) × (Nat → Int32) × Int32 × Int32 × Int32 × Int32 × Int32 × Nat => u.2.2.2.2.2.2.2 = oc) (fun u t => va_P G.1 nn_cls [(h0, .inr (3, [.ref x1, .ref x2, .int u.2.2.1, .int u.2.2.2.1, .int u.2.2.2.2.1, .int u.2.2.2.2.2.1, .int u.2.2.2.2.2.2.1, .int (nI u.2.2.2.2.2.2.2)])), (x1, .inl (G.2 0, 200, .inl (u.1))), (x2, .inl (G.2 0, 8, .inl (u.2.1)))] t.heap ∧ va_D (va_A [(h0, .inr (3, [.ref x1, .ref x2, .int v1, .int v2, .int v3, .int v4, .int v5, .int (nI oc)])), (x1, .inl (G.2 0, 200, .inl (f))), (x2, .inl (G.2 0, 8, .inl (g)))] sz) [(h0, .inr (3, [.ref x1, .ref x2, .int u.2.2.1, .int u.2.2.2.1, .int u.2.2.2.2.1, .int u.2.2.2.2.2.1, .int u.2.2.2.2.2.2.1, .int (nI u.2.2.2.2.2.2.2)])), (x1, .inl (G.2 0, 200, .inl (u.1))), (x2, .inl (G.2 0, 8, .inl (u.2.1)))]) (va_A [(h0, .inr (3, [.ref x1, .ref x2, .int v1, .int v2, .int v3, .int v4, .int v5, .int (nI oc)])), (x1, .inl (G.2 0, 200, .inl (f))), (x2, .inl (G.2 0, 8, .inl (g)))] sz)) 0 0 (va_A [(h0, .inr (3, [.ref x1, .ref x2, .int v1, .int v2, .int v3, .int v4, .int v5, .int (nI oc)])), (x1, .inl (G.2 0, 200, .inl (f))), (x2, .inl (G.2 0, 8, .inl (g)))] sz) := by
  refine Met.ofW (cc := b_Ma_push) (maxL := 2) (ret := none) (by decide) rfl ?_
  intro p e s m args below meth c s₁ B hml hv
  obtain ⟨rfl, hsz, hP, hK, hD0, hN⟩ := hv
  have hx := B.exec
  have hb := B.bytes
  have hr := B.returns
  have hts := atoms_spec (ws := w_Ma_push) B.pre
  have hg : ∀ w ∈ nn_gw, w.before _ s = true := fun w h => hts w (List.mem_cons_of_mem _ h)
  have hown : s.vm.findClass R_Ma = some m.cls := findClass_of_methodNamed B.named
  have hlocks := B.notSynchronized
  subst hsz
  have hD := hD0.self (sz := s.heap.size)
  generalize hAe : va_A [(h0, .inr (3, [.ref x1, .ref x2, .int v1, .int v2, .int v3, .int v4, .int v5, .int (nI oc)])), (x1, .inl (G.2 0, 200, .inl (f))), (x2, .inl (G.2 0, 8, .inl (g)))] s.heap.size = A at hD ⊢
  have hA : ∀ q : Nat, s.heap.size ≤ q → A q := fun q h => by rw [← hAe]; exact Or.inr h
  have hS : va_S A s.heap s.heap [] := va_S.rf
  have hP : va_P G.1 nn_cls [(h0, .inr (3, [.ref x1, .ref x2, .int v1, .int v2, .int v3, .int v4, .int v5, .int (nI oc)])), (x1, .inl (G.2 0, 200, .inl (f))), (x2, .inl (G.2 0, 8, .inl (g)))] s.heap := hP
  have hl := lv_entry ([.ref h0, .int k]) (n := 2) (Nat.le_of_ble_eq_true rfl)
  rw [lg_entry_eq]
  generalize (lg_sl ([.ref h0, .int k]) ++ List.replicate (2 - (lg_sl ([.ref h0, .int k])).length) Slot.unset).toArray = ls at hl ⊢
  have hl : lv_has ls 2 [(0, .ref h0), (1, .int k)] := hl
  refine lv_aload_n hx hb d_Ma_push_0 rfl (lv_at hl 0 rfl) ?_
  refine lv_aload_n hx hb d_Ma_push_1 rfl (lv_at hl 0 rfl) ?_
  refine va_get (D := G.1) (ci := 3) (v := .int v4) (C := R_Ma) (T := T_Ma) (N := 8) hx hb hg in_Ma hown hK hP 0 rfl rfl 5 (by decide) (hg _ mw_251) (fun _ h9 => h9) rfl d_Ma_push_2 ?_
  refine lv_iconst (v := 1) hx hb d_Ma_push_5 (by decide) ?_
  refine lv_iadd hx hb d_Ma_push_6 ?_
  refine lv_iload_n hx hb d_Ma_push_7 rfl (lv_at hl 1 rfl) ?_
  have hPc := hP.sub (ws' := [(h0, .inr (3, [.ref x1, .ref x2, .int v1, .int v2, .int v3, .int v4, .int v5, .int (nI oc)])), (x1, .inl (G.2 0, 200, .inl (f))), (x2, .inl (G.2 0, 8, .inl (g)))]) [0, 1, 2] rfl
  have hDc := hD.sub (ws' := [(h0, .inr (3, [.ref x1, .ref x2, .int v1, .int v2, .int v3, .int v4, .int v5, .int (nI oc)])), (x1, .inl (G.2 0, 200, .inl (f))), (x2, .inl (G.2 0, 8, .inl (g)))]) [0, 1, 2] (by decide) rfl
  have hFc := va_free (wc := [(h0, .inr (3, [.ref x1, .ref x2, .int v1, .int v2, .int v3, .int v4, .int v5, .int (nI oc)])), (x1, .inl (G.2 0, 200, .inl (f))), (x2, .inl (G.2 0, 8, .inl (g)))]) hD hS hA [0, 1, 2] rfl
  refine va_callv (va_runV (As := [.int (v4 + 1), .int k]) (rest := []) ⟨hx, hb, hml, hown, hts⟩ (g_Ma_put l G _ h0 x1 x2 f g v1 v2 v3 v4 v5 oc (v4 + 1) k ) (cwV 2 hts (nn_gV mw_856 mw_853 mw_855 mw_39 mw_93) rfl rfl rfl (by decide +kernel) ⟨Nat.le_of_ble_eq_true rfl, Nat.le_of_ble_eq_true rfl⟩) (nn_preV (va_recv hK hP rfl (q0 := 0) rfl) hPc hDc hK hN) rfl rfl hl.1 rfl (lv_room (Nat.le_of_ble_eq_true rfl)) d_Ma_push_8 ⟨(Nat.le_of_ble_eq_true rfl), (Nat.le_of_ble_eq_true rfl)⟩) hS (fun q _ h => hFc q h) hFc (fun u1 t H locs ht hvm hw hB hz1 hk1 hS => ?_)
  obtain ⟨w2, w3, w4, w5, w6, w7, w8, w9⟩ := u1
  dsimp only at hB hw
  have hw9 : oc = w9 := hw.symm
  subst hw9
  obtain ⟨hP1, hD1⟩ := hB
  rw [ht] at hP1
  obtain ⟨hP, hD⟩ := va_join (wr := []) (w1 := [(h0, .inr (3, [.ref x1, .ref x2, .int w4, .int w5, .int w6, .int w7, .int w8, .int (nI oc)])), (x1, .inl (G.2 0, 200, .inl (w2))), (x2, .inl (G.2 0, 8, .inl (w3)))]) hP hD [0, 1, 2] [] rfl rfl (by decide) (by decide) hk1 hFc hP1 hD1
  have hP : va_P G.1 nn_cls [(h0, .inr (3, [.ref x1, .ref x2, .int w4, .int w5, .int w6, .int w7, .int w8, .int (nI oc)])), (x1, .inl (G.2 0, 200, .inl (w2))), (x2, .inl (G.2 0, 8, .inl (w3)))] H := hP
  have hD : va_D A [(h0, .inr (3, [.ref x1, .ref x2, .int w4, .int w5, .int w6, .int w7, .int w8, .int (nI oc)])), (x1, .inl (G.2 0, 200, .inl (w2))), (x2, .inl (G.2 0, 8, .inl (w3)))] := hD
  refine W.widen (k := 0) (n := 0) (Nat.le_of_ble_eq_true rfl) (Nat.le_of_ble_eq_true rfl) ?_
  refine lv_aload_n hx hb d_Ma_push_11 rfl (lv_at hl 0 rfl) ?_
  refine lv_dup hx hb d_Ma_push_12 rfl ?_
  refine va_get (D := G.1) (ci := 3) (v := .int w7) (C := R_Ma) (T := T_Ma) (N := 8) hx hb hg in_Ma hown hK hP 0 rfl rfl 5 (by decide) (hg _ mw_251) (fun _ h9 => h9) rfl d_Ma_push_13 ?_
  refine lv_iconst (v := 1) hx hb d_Ma_push_16 (by decide) ?_
  refine lv_iadd hx hb d_Ma_push_17 ?_
  refine va_put (D := G.1) (ci := 3) (v := .int (w7 + 1)) (ty := .int) (C := R_Ma) (T := T_Ma) (N := 8) hx hb hg in_Ma t_Ma ok_Ma nm_Ma hown hK hP hD hS 0 rfl rfl 5 (by decide) (hg _ mw_251) (fun _ h9 => h9) rfl (by decide +kernel) rfl rfl (Nat.le_of_ble_eq_true rfl) d_Ma_push_18 (fun H locs hP hD hS => ?_)
  have hP : va_P G.1 nn_cls [(h0, .inr (3, [.ref x1, .ref x2, .int w4, .int w5, .int w6, .int (w7 + 1), .int w8, .int (nI oc)])), (x1, .inl (G.2 0, 200, .inl (w2))), (x2, .inl (G.2 0, 8, .inl (w3)))] H := hP
  have hD : va_D A [(h0, .inr (3, [.ref x1, .ref x2, .int w4, .int w5, .int w6, .int (w7 + 1), .int w8, .int (nI oc)])), (x1, .inl (G.2 0, 200, .inl (w2))), (x2, .inl (G.2 0, 8, .inl (w3)))] := hD
  refine W.widen (k := 0) (n := 0) (Nat.le_of_ble_eq_true rfl) (Nat.le_of_ble_eq_true rfl) ?_
  have hP9 := hP.sub (ws' := [(h0, .inr (3, [.ref x1, .ref x2, .int w4, .int w5, .int w6, .int (w7 + 1), .int w8, .int (nI oc)])), (x1, .inl (G.2 0, 200, .inl (w2))), (x2, .inl (G.2 0, 8, .inl (w3)))]) [0, 1, 2] rfl
  have hD9 := hD.sub (ws' := [(h0, .inr (3, [.ref x1, .ref x2, .int w4, .int w5, .int w6, .int (w7 + 1), .int w8, .int (nI oc)])), (x1, .inl (G.2 0, 200, .inl (w2))), (x2, .inl (G.2 0, 8, .inl (w3)))]) [0, 1, 2] (by decide) rfl
  exact W.vret hx hb hr (fun t ht hW => ⟨⟨(w2, w3, w4, w5, w6, (w7 + 1), w8, oc), rfl, rfl, ⟨by rw [ht]; exact hP9, hD9⟩⟩, hS.F ht⟩) hS.2.2 d_Ma_push_21

theorem mw_250 : (.fieldLink R_Ma 25 R_Ma "base" "I" : Cond) ∈ nn_gw := nn_at 250 (by decide +kernel) (by decide +kernel)
theorem d_Ma_linked_0 : decode b_Ma_linked 0 = .ok (.aload_n 0, 1) := by decide +kernel
theorem d_Ma_linked_1 : decode b_Ma_linked 1 = .ok (.getfield 25, 3) := by decide +kernel
theorem d_Ma_linked_4 : decode b_Ma_linked 4 = .ok (.istore_n 2, 1) := by decide +kernel
theorem d_Ma_linked_5 : decode b_Ma_linked 5 = .ok (.iconst 0, 1) := by decide +kernel
theorem d_Ma_linked_6 : decode b_Ma_linked 6 = .ok (.istore_n 3, 1) := by decide +kernel
theorem d_Ma_linked_7 : decode b_Ma_linked 7 = .ok (.iload_n 3, 1) := by decide +kernel
theorem d_Ma_linked_8 : decode b_Ma_linked 8 = .ok (.iload_n 1, 1) := by decide +kernel
theorem d_Ma_linked_9 : decode b_Ma_linked 9 = .ok (.if_icmp .ge 19, 3) := by decide +kernel
theorem d_Ma_linked_12 : decode b_Ma_linked 12 = .ok (.iload_n 2, 1) := by decide +kernel
theorem d_Ma_linked_13 : decode b_Ma_linked 13 = .ok (.ifCond .le 15, 3) := by decide +kernel
theorem d_Ma_linked_16 : decode b_Ma_linked 16 = .ok (.aload_n 0, 1) := by decide +kernel
theorem d_Ma_linked_17 : decode b_Ma_linked 17 = .ok (.iload_n 2, 1) := by decide +kernel
theorem d_Ma_linked_18 : decode b_Ma_linked 18 = .ok (.invokevirtual 46, 3) := by decide +kernel
theorem d_Ma_linked_21 : decode b_Ma_linked 21 = .ok (.istore_n 2, 1) := by decide +kernel
theorem d_Ma_linked_22 : decode b_Ma_linked 22 = .ok (.iinc 3 1, 3) := by decide +kernel
theorem d_Ma_linked_25 : decode b_Ma_linked 25 = .ok (.goto (-18), 3) := by decide +kernel
theorem d_Ma_linked_28 : decode b_Ma_linked 28 = .ok (.iload_n 2, 1) := by decide +kernel
theorem d_Ma_linked_29 : decode b_Ma_linked 29 = .ok (.ireturn, 1) := by decide +kernel

set_option maxHeartbeats 4000000 in
set_option maxRecDepth 100000 in
theorem g_Ma_linked (l : Launch) (G : nn_G) (sz : Nat) (h0 x1 x2 : Nat) (f g : Nat → Int32) (v1 v2 v3 v4 v5 : Int32) (oc : Nat) (k : Int32) : Met l y_Ma_linked w_Ma_linked ({ frames := 1, cells := 0, slots := 0, locals := 21 }) (nn_P G [.ref h0, .int k] [(h0, .inr (3, [.ref x1, .ref x2, .int v1, .int v2, .int v3, .int v4, .int v5, .int (nI oc)])), (x1, .inl (G.2 0, 200, .inl (f))), (x2, .inl (G.2 0, 8, .inl (g)))] sz) (vp_Si (fun r => True)) 0 0 (fun _ => False) := by
  refine Met.ofW (cc := b_Ma_linked) (maxL := 4) (ret := some .int) (by decide) rfl ?_
  intro p e s m args below meth c s₁ B hml hv
  obtain ⟨rfl, hsz, hP, hK, hD0, hN⟩ := hv
  have hx := B.exec
  have hb := B.bytes
  have hr := B.returns
  have hts := atoms_spec (ws := w_Ma_linked) B.pre
  have hg : ∀ w ∈ nn_gw, w.before _ s = true := fun w h => hts w (List.mem_cons_of_mem _ h)
  have hown : s.vm.findClass R_Ma = some m.cls := findClass_of_methodNamed B.named
  have hlocks := B.notSynchronized
  subst hsz
  have hD := hD0
  generalize hAe : (fun _ : Nat => True) = A at hD
  have hA : ∀ q : Nat, s.heap.size ≤ q → A q := fun q h => by rw [← hAe]; trivial
  have hS : va_S A s.heap s.heap [] := va_S.rf
  have hP : va_P G.1 nn_cls [(h0, .inr (3, [.ref x1, .ref x2, .int v1, .int v2, .int v3, .int v4, .int v5, .int (nI oc)])), (x1, .inl (G.2 0, 200, .inl (f))), (x2, .inl (G.2 0, 8, .inl (g)))] s.heap := hP
  have hl := lv_entry ([.ref h0, .int k]) (n := 4) (Nat.le_of_ble_eq_true rfl)
  rw [lg_entry_eq]
  generalize (lg_sl ([.ref h0, .int k]) ++ List.replicate (4 - (lg_sl ([.ref h0, .int k])).length) Slot.unset).toArray = ls at hl ⊢
  have hl : lv_has ls 4 [(0, .ref h0), (1, .int k)] := hl
  refine lv_aload_n hx hb d_Ma_linked_0 rfl (lv_at hl 0 rfl) ?_
  refine va_get (D := G.1) (ci := 3) (v := .int v3) (C := R_Ma) (T := T_Ma) (N := 8) hx hb hg in_Ma hown hK hP 0 rfl rfl 4 (by decide) (hg _ mw_250) (fun _ h9 => h9) rfl d_Ma_linked_1 ?_
  refine lv_istore_n (lv' := [(2, .int v3), (0, .ref h0), (1, .int k)]) hx hb d_Ma_linked_4 rfl hl (by decide) rfl (fun ls hl => ?_)
  refine lv_iconst (v := 0) hx hb d_Ma_linked_5 (by decide) ?_
  refine lv_istore_n (lv' := [(3, .int 0), (2, .int v3), (0, .ref h0), (1, .int k)]) hx hb d_Ma_linked_6 rfl hl (by decide) rfl (fun ls hl => ?_)
  by_cases hneg : k < 0
  · skip
    refine lv_iload_n hx hb d_Ma_linked_7 rfl (lv_at hl 0 rfl) ?_
    refine lv_iload_n hx hb d_Ma_linked_8 rfl (lv_at hl 3 rfl) ?_
    refine lv_icmp_ge (tgt := 28) hx hb d_Ma_linked_9 rfl (fun _ => ?_) (fun h => absurd (Int32.le_of_lt hneg) h)
    refine lv_iload_n hx hb d_Ma_linked_28 rfl (lv_at hl 1 rfl) ?_
    exact W.iret (v := v3) hx hb hr (fun t ht hW => ⟨v3, rfl, trivial, ht⟩) (fun q h => by cases h) d_Ma_linked_29
  · skip
    obtain ⟨mm, hmm, hk⟩ := nI_of hneg
    have hl := lv_sub (l' := [(3, .int 0), (2, .int v3), (0, .ref h0), (1, .int k)]) hl [0, 1, 2, 3] rfl
    suffices loop : ∀ (j : Nat) (i : Nat) (xx : Int32) (ls : Array Slot), i + j = mm → lv_has ls 4 [(3, .int (nI i)), (2, .int xx), (0, .ref h0), (1, .int k)] → W p l e (headSpec w_Ma_linked ({ frames := 1, cells := 0, slots := 0, locals := 21 })).room s m [.ref h0, .int k].toArray below meth c s.heap [] 0 0 (MQ below (vp_Si (fun r => True)) [.ref h0, .int k].toArray s 0 0 (fun _ => False)) (F0 m 7 ls []) by
      exact loop mm 0 _ ls (by omega) hl
    intro j
    induction j with
    | zero =>
      intro i xx ls hi hl
      refine lv_iload_n hx hb d_Ma_linked_7 rfl (lv_at hl 0 rfl) ?_
      refine lv_iload_n hx hb d_Ma_linked_8 rfl (lv_at hl 3 rfl) ?_
      refine lv_icmp_ge (tgt := 28) hx hb d_Ma_linked_9 rfl (fun _ => ?_) (fun h => absurd (by rw [hk]; exact nI_le (by omega) (by omega)) h)
      refine lv_iload_n hx hb d_Ma_linked_28 rfl (lv_at hl 1 rfl) ?_
      exact W.iret (v := xx) hx hb hr (fun t ht hW => ⟨xx, rfl, trivial, ht⟩) (fun q h => by cases h) d_Ma_linked_29
    | succ j ih =>
      intro i xx ls hi hl
      refine lv_iload_n hx hb d_Ma_linked_7 rfl (lv_at hl 0 rfl) ?_
      refine lv_iload_n hx hb d_Ma_linked_8 rfl (lv_at hl 3 rfl) ?_
      refine lv_icmp_ge (tgt := 28) hx hb d_Ma_linked_9 rfl (fun h => absurd h (by rw [hk]; exact nI_ge (by omega) hmm)) (fun _ => ?_)
      refine lv_iload_n hx hb d_Ma_linked_12 rfl (lv_at hl 1 rfl) ?_
      refine lv_if_le (tgt := 28) hx hb d_Ma_linked_13 rfl (fun hc13 => ?_) (fun hc13 => ?_)
      · skip
        refine lv_iload_n hx hb d_Ma_linked_28 rfl (lv_at hl 1 rfl) ?_
        exact W.iret (v := xx) hx hb hr (fun t ht hW => ⟨xx, rfl, trivial, ht⟩) (fun q h => by cases h) d_Ma_linked_29
      · skip
        refine lv_aload_n hx hb d_Ma_linked_16 rfl (lv_at hl 2 rfl) ?_
        refine lv_iload_n hx hb d_Ma_linked_17 rfl (lv_at hl 1 rfl) ?_
        have hPc := hP.sub (ws' := [(h0, .inr (3, [.ref x1, .ref x2, .int v1, .int v2, .int v3, .int v4, .int v5, .int (nI oc)])), (x1, .inl (G.2 0, 200, .inl (f))), (x2, .inl (G.2 0, 8, .inl (g)))]) [0, 1, 2] rfl
        have hDc := hD.sub (ws' := [(h0, .inr (3, [.ref x1, .ref x2, .int v1, .int v2, .int v3, .int v4, .int v5, .int (nI oc)])), (x1, .inl (G.2 0, 200, .inl (f))), (x2, .inl (G.2 0, 8, .inl (g)))]) [0, 1, 2] (by decide) rfl
        refine vp_callSi (va_Run.run (va_runV (As := [.int xx]) (rest := []) ⟨hx, hb, hml, hown, hts⟩ (g_Ma_at l G _ h0 x1 x2 f g v1 v2 v3 v4 v5 oc xx) (cwV 1 hts (nn_gV mw_368 mw_365 mw_367 mw_2 mw_93) rfl rfl rfl (by decide +kernel) ⟨Nat.le_of_ble_eq_true rfl, Nat.le_of_ble_eq_true rfl⟩) (nn_preV (va_recv hK hP rfl (q0 := 0) rfl) hPc hDc hK hN) rfl rfl hl.1 rfl (lv_room (Nat.le_of_ble_eq_true rfl)) d_Ma_linked_18 ⟨(Nat.le_of_ble_eq_true rfl), (Nat.le_of_ble_eq_true rfl)⟩)) (fun r1 er1 => ?_)
        refine lv_istore_n (lv' := [(2, .int r1), (3, .int (nI i)), (0, .ref h0), (1, .int k)]) hx hb d_Ma_linked_21 rfl hl (by decide) rfl (fun ls hl => ?_)
        refine lv_iinc (k := 1) (v := nI (i + 1)) (lv' := [(3, .int (nI (i + 1))), (2, .int r1), (0, .ref h0), (1, .int k)]) hx hb d_Ma_linked_22 hl rfl ((nI_succ i).symm) (by decide) rfl (fun ls hl => ?_)
        refine lv_goto (tgt := 7) hx hb d_Ma_linked_25 rfl ?_
        have hl := lv_sub (l' := [(3, .int (nI (i + 1))), (2, .int r1), (0, .ref h0), (1, .int k)]) hl [0, 1, 2, 3] rfl
        exact ih (i + 1) r1 ls (by omega) hl

theorem nb_gt3 {x : Int32} (h : ¬ x ≤ 3) : ∃ n : Nat, 3 < n ∧ n < 2 ^ 31 ∧ x = nI n := by
  have h0 : ¬ x < 0 := fun q => h (Int32.le_trans (Int32.le_of_lt q) (by decide))
  obtain ⟨n, hn, rfl⟩ := nI_of h0
  refine ⟨n, ?_, hn, rfl⟩
  by_cases q : 3 < n
  · exact q
  · exact absurd (nI_le (a := n) (b := 3) (by omega) (by decide)) h

theorem d_Ma_reserve_0 : decode b_Ma_reserve 0 = .ok (.iconst 3, 1) := by decide +kernel
theorem d_Ma_reserve_1 : decode b_Ma_reserve 1 = .ok (.istore_n 2, 1) := by decide +kernel
theorem d_Ma_reserve_2 : decode b_Ma_reserve 2 = .ok (.iload_n 2, 1) := by decide +kernel
theorem d_Ma_reserve_3 : decode b_Ma_reserve 3 = .ok (.iload_n 1, 1) := by decide +kernel
theorem d_Ma_reserve_4 : decode b_Ma_reserve 4 = .ok (.if_icmp .ge 22, 3) := by decide +kernel
theorem d_Ma_reserve_7 : decode b_Ma_reserve 7 = .ok (.aload_n 0, 1) := by decide +kernel
theorem d_Ma_reserve_8 : decode b_Ma_reserve 8 = .ok (.aload_n 0, 1) := by decide +kernel
theorem d_Ma_reserve_9 : decode b_Ma_reserve 9 = .ok (.getfield 28, 3) := by decide +kernel
theorem d_Ma_reserve_12 : decode b_Ma_reserve 12 = .ok (.iconst 1, 1) := by decide +kernel
theorem d_Ma_reserve_13 : decode b_Ma_reserve 13 = .ok (.iadd, 1) := by decide +kernel
theorem d_Ma_reserve_14 : decode b_Ma_reserve 14 = .ok (.iload_n 2, 1) := by decide +kernel
theorem d_Ma_reserve_15 : decode b_Ma_reserve 15 = .ok (.iadd, 1) := by decide +kernel
theorem d_Ma_reserve_16 : decode b_Ma_reserve 16 = .ok (.iconst 0, 1) := by decide +kernel
theorem d_Ma_reserve_17 : decode b_Ma_reserve 17 = .ok (.invokevirtual 83, 3) := by decide +kernel
theorem d_Ma_reserve_20 : decode b_Ma_reserve 20 = .ok (.iinc 2 1, 3) := by decide +kernel
theorem d_Ma_reserve_23 : decode b_Ma_reserve 23 = .ok (.goto (-21), 3) := by decide +kernel
theorem d_Ma_reserve_26 : decode b_Ma_reserve 26 = .ok (.aload_n 0, 1) := by decide +kernel
theorem d_Ma_reserve_27 : decode b_Ma_reserve 27 = .ok (.dup, 1) := by decide +kernel
theorem d_Ma_reserve_28 : decode b_Ma_reserve 28 = .ok (.getfield 28, 3) := by decide +kernel
theorem d_Ma_reserve_31 : decode b_Ma_reserve 31 = .ok (.iload_n 1, 1) := by decide +kernel
theorem d_Ma_reserve_32 : decode b_Ma_reserve 32 = .ok (.iadd, 1) := by decide +kernel
theorem d_Ma_reserve_33 : decode b_Ma_reserve 33 = .ok (.putfield 28, 3) := by decide +kernel
theorem d_Ma_reserve_36 : decode b_Ma_reserve 36 = .ok (.return_, 1) := by decide +kernel

set_option maxHeartbeats 4000000 in
set_option maxRecDepth 100000 in
theorem g_Ma_reserve (l : Launch) (G : nn_G) (sz : Nat) (h0 x1 x2 : Nat) (f g : Nat → Int32) (v1 v2 v3 v4 v5 : Int32) (oc : Nat) (k : Int32) : Met l y_Ma_reserve w_Ma_reserve ({ frames := 1, cells := 0, slots := 0, locals := 22 }) (nn_P G [.ref h0, .int k] [(h0, .inr (3, [.ref x1, .ref x2, .int v1, .int v2, .int v3, .int v4, .int v5, .int (nI oc)])), (x1, .inl (G.2 0, 200, .inl (f))), (x2, .inl (G.2 0, 8, .inl (g)))] sz) (va_Qv (fun u : (Nat → Int32) × (Nat → Int32) × Int32 × Int32 × Int32 × Int32 × Int32 × Nat => u.2.2.2.2.2.2.2 = oc) (fun u t => va_P G.1 nn_cls [(h0, .inr (3, [.ref x1, .ref x2, .int u.2.2.1, .int u.2.2.2.1, .int u.2.2.2.2.1, .int u.2.2.2.2.2.1, .int u.2.2.2.2.2.2.1, .int (nI u.2.2.2.2.2.2.2)])), (x1, .inl (G.2 0, 200, .inl (u.1))), (x2, .inl (G.2 0, 8, .inl (u.2.1)))] t.heap ∧ va_D (va_A [(h0, .inr (3, [.ref x1, .ref x2, .int v1, .int v2, .int v3, .int v4, .int v5, .int (nI oc)])), (x1, .inl (G.2 0, 200, .inl (f))), (x2, .inl (G.2 0, 8, .inl (g)))] sz) [(h0, .inr (3, [.ref x1, .ref x2, .int u.2.2.1, .int u.2.2.2.1, .int u.2.2.2.2.1, .int u.2.2.2.2.2.1, .int u.2.2.2.2.2.2.1, .int (nI u.2.2.2.2.2.2.2)])), (x1, .inl (G.2 0, 200, .inl (u.1))), (x2, .inl (G.2 0, 8, .inl (u.2.1)))]) (va_A [(h0, .inr (3, [.ref x1, .ref x2, .int v1, .int v2, .int v3, .int v4, .int v5, .int (nI oc)])), (x1, .inl (G.2 0, 200, .inl (f))), (x2, .inl (G.2 0, 8, .inl (g)))] sz)) 0 0 (va_A [(h0, .inr (3, [.ref x1, .ref x2, .int v1, .int v2, .int v3, .int v4, .int v5, .int (nI oc)])), (x1, .inl (G.2 0, 200, .inl (f))), (x2, .inl (G.2 0, 8, .inl (g)))] sz) := by
  refine Met.ofW (cc := b_Ma_reserve) (maxL := 3) (ret := none) (by decide) rfl ?_
  intro p e s m args below meth c s₁ B hml hv
  obtain ⟨rfl, hsz, hP, hK, hD0, hN⟩ := hv
  have hx := B.exec
  have hb := B.bytes
  have hr := B.returns
  have hts := atoms_spec (ws := w_Ma_reserve) B.pre
  have hg : ∀ w ∈ nn_gw, w.before _ s = true := fun w h => hts w (List.mem_cons_of_mem _ h)
  have hown : s.vm.findClass R_Ma = some m.cls := findClass_of_methodNamed B.named
  have hlocks := B.notSynchronized
  subst hsz
  have hD := hD0.self (sz := s.heap.size)
  generalize hAe : va_A [(h0, .inr (3, [.ref x1, .ref x2, .int v1, .int v2, .int v3, .int v4, .int v5, .int (nI oc)])), (x1, .inl (G.2 0, 200, .inl (f))), (x2, .inl (G.2 0, 8, .inl (g)))] s.heap.size = A at hD ⊢
  have hA : ∀ q : Nat, s.heap.size ≤ q → A q := fun q h => by rw [← hAe]; exact Or.inr h
  have hS : va_S A s.heap s.heap [] := va_S.rf
  have hP : va_P G.1 nn_cls [(h0, .inr (3, [.ref x1, .ref x2, .int v1, .int v2, .int v3, .int v4, .int v5, .int (nI oc)])), (x1, .inl (G.2 0, 200, .inl (f))), (x2, .inl (G.2 0, 8, .inl (g)))] s.heap := hP
  have hl := lv_entry ([.ref h0, .int k]) (n := 3) (Nat.le_of_ble_eq_true rfl)
  rw [lg_entry_eq]
  generalize (lg_sl ([.ref h0, .int k]) ++ List.replicate (3 - (lg_sl ([.ref h0, .int k])).length) Slot.unset).toArray = ls at hl ⊢
  have hl : lv_has ls 3 [(0, .ref h0), (1, .int k)] := hl
  refine lv_iconst (v := 3) hx hb d_Ma_reserve_0 (by decide) ?_
  refine lv_istore_n (lv' := [(2, .int 3), (0, .ref h0), (1, .int k)]) hx hb d_Ma_reserve_1 rfl hl (by decide) rfl (fun ls hl => ?_)
  by_cases hneg : k ≤ 3
  · skip
    refine lv_iload_n hx hb d_Ma_reserve_2 rfl (lv_at hl 0 rfl) ?_
    refine lv_iload_n hx hb d_Ma_reserve_3 rfl (lv_at hl 2 rfl) ?_
    refine lv_icmp_ge (tgt := 26) hx hb d_Ma_reserve_4 rfl (fun _ => ?_) (fun h => absurd (hneg) h)
    refine lv_aload_n hx hb d_Ma_reserve_26 rfl (lv_at hl 1 rfl) ?_
    refine lv_dup hx hb d_Ma_reserve_27 rfl ?_
    refine va_get (D := G.1) (ci := 3) (v := .int v4) (C := R_Ma) (T := T_Ma) (N := 8) hx hb hg in_Ma hown hK hP 0 rfl rfl 5 (by decide) (hg _ mw_251) (fun _ h9 => h9) rfl d_Ma_reserve_28 ?_
    refine lv_iload_n hx hb d_Ma_reserve_31 rfl (lv_at hl 2 rfl) ?_
    refine lv_iadd hx hb d_Ma_reserve_32 ?_
    refine va_put (D := G.1) (ci := 3) (v := .int (v4 + k)) (ty := .int) (C := R_Ma) (T := T_Ma) (N := 8) hx hb hg in_Ma t_Ma ok_Ma nm_Ma hown hK hP hD hS 0 rfl rfl 5 (by decide) (hg _ mw_251) (fun _ h9 => h9) rfl (by decide +kernel) rfl rfl (Nat.le_of_ble_eq_true rfl) d_Ma_reserve_33 (fun H locs hP hD hS => ?_)
    have hP : va_P G.1 nn_cls [(h0, .inr (3, [.ref x1, .ref x2, .int v1, .int v2, .int v3, .int (v4 + k), .int v5, .int (nI oc)])), (x1, .inl (G.2 0, 200, .inl (f))), (x2, .inl (G.2 0, 8, .inl (g)))] H := hP
    have hD : va_D A [(h0, .inr (3, [.ref x1, .ref x2, .int v1, .int v2, .int v3, .int (v4 + k), .int v5, .int (nI oc)])), (x1, .inl (G.2 0, 200, .inl (f))), (x2, .inl (G.2 0, 8, .inl (g)))] := hD
    refine W.widen (k := 0) (n := 0) (Nat.le_of_ble_eq_true rfl) (Nat.le_of_ble_eq_true rfl) ?_
    have hP9 := hP.sub (ws' := [(h0, .inr (3, [.ref x1, .ref x2, .int v1, .int v2, .int v3, .int (v4 + k), .int v5, .int (nI oc)])), (x1, .inl (G.2 0, 200, .inl (f))), (x2, .inl (G.2 0, 8, .inl (g)))]) [0, 1, 2] rfl
    have hD9 := hD.sub (ws' := [(h0, .inr (3, [.ref x1, .ref x2, .int v1, .int v2, .int v3, .int (v4 + k), .int v5, .int (nI oc)])), (x1, .inl (G.2 0, 200, .inl (f))), (x2, .inl (G.2 0, 8, .inl (g)))]) [0, 1, 2] (by decide) rfl
    exact W.vret hx hb hr (fun t ht hW => ⟨⟨(f, g, v1, v2, v3, (v4 + k), v5, oc), rfl, rfl, ⟨by rw [ht]; exact hP9, hD9⟩⟩, hS.F ht⟩) hS.2.2 d_Ma_reserve_36
  · skip
    obtain ⟨mm, hm3, hmm, hk⟩ := nb_gt3 hneg
    have hl := lv_sub (l' := [(2, .int 3), (0, .ref h0), (1, .int k)]) hl [0, 1, 2] rfl
    have hP := hP.sub (ws' := [(h0, .inr (3, [.ref x1, .ref x2, .int v1, .int v2, .int v3, .int v4, .int v5, .int (nI oc)])), (x1, .inl (G.2 0, 200, .inl (f))), (x2, .inl (G.2 0, 8, .inl (g)))]) [0, 1, 2] rfl
    have hD := hD.sub (ws' := [(h0, .inr (3, [.ref x1, .ref x2, .int v1, .int v2, .int v3, .int v4, .int v5, .int (nI oc)])), (x1, .inl (G.2 0, 200, .inl (f))), (x2, .inl (G.2 0, 8, .inl (g)))]) [0, 1, 2] (by decide) rfl
    suffices loop : ∀ (j : Nat) (i : Nat) (f1 : Nat → Int32) (g1 : Nat → Int32) (b1 : Int32) (b2 : Int32) (b3 : Int32) (b4 : Int32) (b5 : Int32) (ls : Array Slot) (H : Heap) (locs : List Loc), i + j = mm → lv_has ls 3 [(2, .int (nI i)), (0, .ref h0), (1, .int k)] → va_P G.1 nn_cls [(h0, .inr (3, [.ref x1, .ref x2, .int b1, .int b2, .int b3, .int b4, .int b5, .int (nI oc)])), (x1, .inl (G.2 0, 200, .inl (f1))), (x2, .inl (G.2 0, 8, .inl (g1)))] H → va_D A [(h0, .inr (3, [.ref x1, .ref x2, .int b1, .int b2, .int b3, .int b4, .int b5, .int (nI oc)])), (x1, .inl (G.2 0, 200, .inl (f1))), (x2, .inl (G.2 0, 8, .inl (g1)))] → va_S A s.heap H locs → W p l e (headSpec w_Ma_reserve ({ frames := 1, cells := 0, slots := 0, locals := 22 })).room s m [.ref h0, .int k].toArray below meth c H locs 0 0 (MQ below (va_Qv (fun u : (Nat → Int32) × (Nat → Int32) × Int32 × Int32 × Int32 × Int32 × Int32 × Nat => u.2.2.2.2.2.2.2 = oc) (fun u t => va_P G.1 nn_cls [(h0, .inr (3, [.ref x1, .ref x2, .int u.2.2.1, .int u.2.2.2.1, .int u.2.2.2.2.1, .int u.2.2.2.2.2.1, .int u.2.2.2.2.2.2.1, .int (nI u.2.2.2.2.2.2.2)])), (x1, .inl (G.2 0, 200, .inl (u.1))), (x2, .inl (G.2 0, 8, .inl (u.2.1)))] t.heap ∧ va_D A [(h0, .inr (3, [.ref x1, .ref x2, .int u.2.2.1, .int u.2.2.2.1, .int u.2.2.2.2.1, .int u.2.2.2.2.2.1, .int u.2.2.2.2.2.2.1, .int (nI u.2.2.2.2.2.2.2)])), (x1, .inl (G.2 0, 200, .inl (u.1))), (x2, .inl (G.2 0, 8, .inl (u.2.1)))]) A) [.ref h0, .int k].toArray s 0 0 A) (F0 m 2 ls []) by
      exact loop (mm - 3) 3 f g v1 v2 v3 v4 v5 ls _ _ (by omega) hl hP hD hS
    intro j
    induction j with
    | zero =>
      intro i f1 g1 b1 b2 b3 b4 b5 ls H locs hi hl hP hD hS
      refine lv_iload_n hx hb d_Ma_reserve_2 rfl (lv_at hl 0 rfl) ?_
      refine lv_iload_n hx hb d_Ma_reserve_3 rfl (lv_at hl 2 rfl) ?_
      refine lv_icmp_ge (tgt := 26) hx hb d_Ma_reserve_4 rfl (fun _ => ?_) (fun h => absurd (by rw [hk]; exact nI_le (by omega) (by omega)) h)
      refine lv_aload_n hx hb d_Ma_reserve_26 rfl (lv_at hl 1 rfl) ?_
      refine lv_dup hx hb d_Ma_reserve_27 rfl ?_
      refine va_get (D := G.1) (ci := 3) (v := .int b4) (C := R_Ma) (T := T_Ma) (N := 8) hx hb hg in_Ma hown hK hP 0 rfl rfl 5 (by decide) (hg _ mw_251) (fun _ h9 => h9) rfl d_Ma_reserve_28 ?_
      refine lv_iload_n hx hb d_Ma_reserve_31 rfl (lv_at hl 2 rfl) ?_
      refine lv_iadd hx hb d_Ma_reserve_32 ?_
      refine va_put (D := G.1) (ci := 3) (v := .int (b4 + k)) (ty := .int) (C := R_Ma) (T := T_Ma) (N := 8) hx hb hg in_Ma t_Ma ok_Ma nm_Ma hown hK hP hD hS 0 rfl rfl 5 (by decide) (hg _ mw_251) (fun _ h9 => h9) rfl (by decide +kernel) rfl rfl (Nat.le_of_ble_eq_true rfl) d_Ma_reserve_33 (fun H locs hP hD hS => ?_)
      have hP : va_P G.1 nn_cls [(h0, .inr (3, [.ref x1, .ref x2, .int b1, .int b2, .int b3, .int (b4 + k), .int b5, .int (nI oc)])), (x1, .inl (G.2 0, 200, .inl (f1))), (x2, .inl (G.2 0, 8, .inl (g1)))] H := hP
      have hD : va_D A [(h0, .inr (3, [.ref x1, .ref x2, .int b1, .int b2, .int b3, .int (b4 + k), .int b5, .int (nI oc)])), (x1, .inl (G.2 0, 200, .inl (f1))), (x2, .inl (G.2 0, 8, .inl (g1)))] := hD
      refine W.widen (k := 0) (n := 0) (Nat.le_of_ble_eq_true rfl) (Nat.le_of_ble_eq_true rfl) ?_
      have hP9 := hP.sub (ws' := [(h0, .inr (3, [.ref x1, .ref x2, .int b1, .int b2, .int b3, .int (b4 + k), .int b5, .int (nI oc)])), (x1, .inl (G.2 0, 200, .inl (f1))), (x2, .inl (G.2 0, 8, .inl (g1)))]) [0, 1, 2] rfl
      have hD9 := hD.sub (ws' := [(h0, .inr (3, [.ref x1, .ref x2, .int b1, .int b2, .int b3, .int (b4 + k), .int b5, .int (nI oc)])), (x1, .inl (G.2 0, 200, .inl (f1))), (x2, .inl (G.2 0, 8, .inl (g1)))]) [0, 1, 2] (by decide) rfl
      exact W.vret hx hb hr (fun t ht hW => ⟨⟨(f1, g1, b1, b2, b3, (b4 + k), b5, oc), rfl, rfl, ⟨by rw [ht]; exact hP9, hD9⟩⟩, hS.F ht⟩) hS.2.2 d_Ma_reserve_36
    | succ j ih =>
      intro i f1 g1 b1 b2 b3 b4 b5 ls H locs hi hl hP hD hS
      refine lv_iload_n hx hb d_Ma_reserve_2 rfl (lv_at hl 0 rfl) ?_
      refine lv_iload_n hx hb d_Ma_reserve_3 rfl (lv_at hl 2 rfl) ?_
      refine lv_icmp_ge (tgt := 26) hx hb d_Ma_reserve_4 rfl (fun h => absurd h (by rw [hk]; exact nI_ge (by omega) hmm)) (fun _ => ?_)
      refine lv_aload_n hx hb d_Ma_reserve_7 rfl (lv_at hl 1 rfl) ?_
      refine lv_aload_n hx hb d_Ma_reserve_8 rfl (lv_at hl 1 rfl) ?_
      refine va_get (D := G.1) (ci := 3) (v := .int b4) (C := R_Ma) (T := T_Ma) (N := 8) hx hb hg in_Ma hown hK hP 0 rfl rfl 5 (by decide) (hg _ mw_251) (fun _ h9 => h9) rfl d_Ma_reserve_9 ?_
      refine lv_iconst (v := 1) hx hb d_Ma_reserve_12 (by decide) ?_
      refine lv_iadd hx hb d_Ma_reserve_13 ?_
      refine lv_iload_n hx hb d_Ma_reserve_14 rfl (lv_at hl 0 rfl) ?_
      refine lv_iadd hx hb d_Ma_reserve_15 ?_
      refine lv_iconst (v := 0) hx hb d_Ma_reserve_16 (by decide) ?_
      have hPc := hP.sub (ws' := [(h0, .inr (3, [.ref x1, .ref x2, .int b1, .int b2, .int b3, .int b4, .int b5, .int (nI oc)])), (x1, .inl (G.2 0, 200, .inl (f1))), (x2, .inl (G.2 0, 8, .inl (g1)))]) [0, 1, 2] rfl
      have hDc := hD.sub (ws' := [(h0, .inr (3, [.ref x1, .ref x2, .int b1, .int b2, .int b3, .int b4, .int b5, .int (nI oc)])), (x1, .inl (G.2 0, 200, .inl (f1))), (x2, .inl (G.2 0, 8, .inl (g1)))]) [0, 1, 2] (by decide) rfl
      have hFc := va_free (wc := [(h0, .inr (3, [.ref x1, .ref x2, .int b1, .int b2, .int b3, .int b4, .int b5, .int (nI oc)])), (x1, .inl (G.2 0, 200, .inl (f1))), (x2, .inl (G.2 0, 8, .inl (g1)))]) hD hS hA [0, 1, 2] rfl
      refine va_callv (va_runV (As := [.int ((b4 + 1) + (nI i)), .int 0]) (rest := []) ⟨hx, hb, hml, hown, hts⟩ (g_Ma_put l G _ h0 x1 x2 f1 g1 b1 b2 b3 b4 b5 oc ((b4 + 1) + (nI i)) 0 ) (cwV 2 hts (nn_gV mw_856 mw_853 mw_855 mw_39 mw_93) rfl rfl rfl (by decide +kernel) ⟨Nat.le_of_ble_eq_true rfl, Nat.le_of_ble_eq_true rfl⟩) (nn_preV (va_recv hK hP rfl (q0 := 0) rfl) hPc hDc hK hN) rfl rfl hl.1 rfl (lv_room (Nat.le_of_ble_eq_true rfl)) d_Ma_reserve_17 ⟨(Nat.le_of_ble_eq_true rfl), (Nat.le_of_ble_eq_true rfl)⟩) hS (fun q _ h => hFc q h) hFc (fun u1 t H locs ht hvm hw hB hz1 hk1 hS => ?_)
      obtain ⟨w2, w3, w4, w5, w6, w7, w8, w9⟩ := u1
      dsimp only at hB hw
      have hw9 : oc = w9 := hw.symm
      subst hw9
      obtain ⟨hP1, hD1⟩ := hB
      rw [ht] at hP1
      obtain ⟨hP, hD⟩ := va_join (wr := []) (w1 := [(h0, .inr (3, [.ref x1, .ref x2, .int w4, .int w5, .int w6, .int w7, .int w8, .int (nI oc)])), (x1, .inl (G.2 0, 200, .inl (w2))), (x2, .inl (G.2 0, 8, .inl (w3)))]) hP hD [0, 1, 2] [] rfl rfl (by decide) (by decide) hk1 hFc hP1 hD1
      have hP : va_P G.1 nn_cls [(h0, .inr (3, [.ref x1, .ref x2, .int w4, .int w5, .int w6, .int w7, .int w8, .int (nI oc)])), (x1, .inl (G.2 0, 200, .inl (w2))), (x2, .inl (G.2 0, 8, .inl (w3)))] H := hP
      have hD : va_D A [(h0, .inr (3, [.ref x1, .ref x2, .int w4, .int w5, .int w6, .int w7, .int w8, .int (nI oc)])), (x1, .inl (G.2 0, 200, .inl (w2))), (x2, .inl (G.2 0, 8, .inl (w3)))] := hD
      refine W.widen (k := 0) (n := 0) (Nat.le_of_ble_eq_true rfl) (Nat.le_of_ble_eq_true rfl) ?_
      refine lv_iinc (k := 0) (v := nI (i + 1)) (lv' := [(2, .int (nI (i + 1))), (0, .ref h0), (1, .int k)]) hx hb d_Ma_reserve_20 hl rfl ((nI_succ i).symm) (by decide) rfl (fun ls hl => ?_)
      refine lv_goto (tgt := 2) hx hb d_Ma_reserve_23 rfl ?_
      have hl := lv_sub (l' := [(2, .int (nI (i + 1))), (0, .ref h0), (1, .int k)]) hl [0, 1, 2] rfl
      have hP := hP.sub (ws' := [(h0, .inr (3, [.ref x1, .ref x2, .int w4, .int w5, .int w6, .int w7, .int w8, .int (nI oc)])), (x1, .inl (G.2 0, 200, .inl (w2))), (x2, .inl (G.2 0, 8, .inl (w3)))]) [0, 1, 2] rfl
      have hD := hD.sub (ws' := [(h0, .inr (3, [.ref x1, .ref x2, .int w4, .int w5, .int w6, .int w7, .int w8, .int (nI oc)])), (x1, .inl (G.2 0, 200, .inl (w2))), (x2, .inl (G.2 0, 8, .inl (w3)))]) [0, 1, 2] (by decide) rfl
      exact ih (i + 1) w2 w3 w4 w5 w6 w7 w8 ls H locs (by omega) hl hP hD hS

theorem mw_40 : (.selects R_Ma y_Ma_pop y_Ma_pop : Cond) ∈ nn_gw := nn_at 40 (by decide +kernel) (by decide +kernel)
theorem mw_857 : (.methodLink R_Ma 79 y_Ma_pop : Cond) ∈ nn_gw := nn_at 857 (by decide +kernel) (by decide +kernel)
theorem mw_859 : (.instanceMethod y_Ma_pop : Cond) ∈ nn_gw := nn_at 859 (by decide +kernel) (by decide +kernel)
theorem mw_860 : (.code y_Ma_pop b_Ma_pop 2 (some .int) : Cond) ∈ nn_gw := nn_at 860 (by decide +kernel) (by decide +kernel)
theorem d_Ma_storeElement_0 : decode b_Ma_storeElement 0 = .ok (.aload_n 0, 1) := by decide +kernel
theorem d_Ma_storeElement_1 : decode b_Ma_storeElement 1 = .ok (.invokevirtual 79, 3) := by decide +kernel
theorem d_Ma_storeElement_4 : decode b_Ma_storeElement 4 = .ok (.istore_n 2, 1) := by decide +kernel
theorem d_Ma_storeElement_5 : decode b_Ma_storeElement 5 = .ok (.aload_n 0, 1) := by decide +kernel
theorem d_Ma_storeElement_6 : decode b_Ma_storeElement 6 = .ok (.invokevirtual 79, 3) := by decide +kernel
theorem d_Ma_storeElement_9 : decode b_Ma_storeElement 9 = .ok (.istore_n 3, 1) := by decide +kernel
theorem d_Ma_storeElement_10 : decode b_Ma_storeElement 10 = .ok (.aload_n 0, 1) := by decide +kernel
theorem d_Ma_storeElement_11 : decode b_Ma_storeElement 11 = .ok (.iload_n 1, 1) := by decide +kernel
theorem d_Ma_storeElement_12 : decode b_Ma_storeElement 12 = .ok (.iload_n 3, 1) := by decide +kernel
theorem d_Ma_storeElement_13 : decode b_Ma_storeElement 13 = .ok (.iadd, 1) := by decide +kernel
theorem d_Ma_storeElement_14 : decode b_Ma_storeElement 14 = .ok (.iload_n 2, 1) := by decide +kernel
theorem d_Ma_storeElement_15 : decode b_Ma_storeElement 15 = .ok (.invokevirtual 83, 3) := by decide +kernel
theorem d_Ma_storeElement_18 : decode b_Ma_storeElement 18 = .ok (.return_, 1) := by decide +kernel

set_option maxHeartbeats 4000000 in
set_option maxRecDepth 100000 in
theorem g_Ma_storeElement (l : Launch) (G : nn_G) (sz : Nat) (h0 x1 x2 : Nat) (f g : Nat → Int32) (v1 v2 v3 v4 v5 : Int32) (oc : Nat) (k : Int32) : Met l y_Ma_storeElement w_Ma_storeElement ({ frames := 2, cells := 0, slots := 0, locals := 42 }) (nn_P G [.ref h0, .int k] [(h0, .inr (3, [.ref x1, .ref x2, .int v1, .int v2, .int v3, .int v4, .int v5, .int (nI oc)])), (x1, .inl (G.2 0, 200, .inl (f))), (x2, .inl (G.2 0, 8, .inl (g)))] sz) (va_Qv (fun u : (Nat → Int32) × (Nat → Int32) × Int32 × Int32 × Int32 × Int32 × Int32 × Nat => u.2.2.2.2.2.2.2 = oc) (fun u t => va_P G.1 nn_cls [(h0, .inr (3, [.ref x1, .ref x2, .int u.2.2.1, .int u.2.2.2.1, .int u.2.2.2.2.1, .int u.2.2.2.2.2.1, .int u.2.2.2.2.2.2.1, .int (nI u.2.2.2.2.2.2.2)])), (x1, .inl (G.2 0, 200, .inl (u.1))), (x2, .inl (G.2 0, 8, .inl (u.2.1)))] t.heap ∧ va_D (va_A [(h0, .inr (3, [.ref x1, .ref x2, .int v1, .int v2, .int v3, .int v4, .int v5, .int (nI oc)])), (x1, .inl (G.2 0, 200, .inl (f))), (x2, .inl (G.2 0, 8, .inl (g)))] sz) [(h0, .inr (3, [.ref x1, .ref x2, .int u.2.2.1, .int u.2.2.2.1, .int u.2.2.2.2.1, .int u.2.2.2.2.2.1, .int u.2.2.2.2.2.2.1, .int (nI u.2.2.2.2.2.2.2)])), (x1, .inl (G.2 0, 200, .inl (u.1))), (x2, .inl (G.2 0, 8, .inl (u.2.1)))]) (va_A [(h0, .inr (3, [.ref x1, .ref x2, .int v1, .int v2, .int v3, .int v4, .int v5, .int (nI oc)])), (x1, .inl (G.2 0, 200, .inl (f))), (x2, .inl (G.2 0, 8, .inl (g)))] sz)) 0 0 (va_A [(h0, .inr (3, [.ref x1, .ref x2, .int v1, .int v2, .int v3, .int v4, .int v5, .int (nI oc)])), (x1, .inl (G.2 0, 200, .inl (f))), (x2, .inl (G.2 0, 8, .inl (g)))] sz) := by
  refine Met.ofW (cc := b_Ma_storeElement) (maxL := 4) (ret := none) (by decide) rfl ?_
  intro p e s m args below meth c s₁ B hml hv
  obtain ⟨rfl, hsz, hP, hK, hD0, hN⟩ := hv
  have hx := B.exec
  have hb := B.bytes
  have hr := B.returns
  have hts := atoms_spec (ws := w_Ma_storeElement) B.pre
  have hg : ∀ w ∈ nn_gw, w.before _ s = true := fun w h => hts w (List.mem_cons_of_mem _ h)
  have hown : s.vm.findClass R_Ma = some m.cls := findClass_of_methodNamed B.named
  have hlocks := B.notSynchronized
  subst hsz
  have hD := hD0.self (sz := s.heap.size)
  generalize hAe : va_A [(h0, .inr (3, [.ref x1, .ref x2, .int v1, .int v2, .int v3, .int v4, .int v5, .int (nI oc)])), (x1, .inl (G.2 0, 200, .inl (f))), (x2, .inl (G.2 0, 8, .inl (g)))] s.heap.size = A at hD ⊢
  have hA : ∀ q : Nat, s.heap.size ≤ q → A q := fun q h => by rw [← hAe]; exact Or.inr h
  have hS : va_S A s.heap s.heap [] := va_S.rf
  have hP : va_P G.1 nn_cls [(h0, .inr (3, [.ref x1, .ref x2, .int v1, .int v2, .int v3, .int v4, .int v5, .int (nI oc)])), (x1, .inl (G.2 0, 200, .inl (f))), (x2, .inl (G.2 0, 8, .inl (g)))] s.heap := hP
  have hl := lv_entry ([.ref h0, .int k]) (n := 4) (Nat.le_of_ble_eq_true rfl)
  rw [lg_entry_eq]
  generalize (lg_sl ([.ref h0, .int k]) ++ List.replicate (4 - (lg_sl ([.ref h0, .int k])).length) Slot.unset).toArray = ls at hl ⊢
  have hl : lv_has ls 4 [(0, .ref h0), (1, .int k)] := hl
  refine lv_aload_n hx hb d_Ma_storeElement_0 rfl (lv_at hl 0 rfl) ?_
  have hPc := hP.sub (ws' := [(h0, .inr (3, [.ref x1, .ref x2, .int v1, .int v2, .int v3, .int v4, .int v5, .int (nI oc)])), (x1, .inl (G.2 0, 200, .inl (f))), (x2, .inl (G.2 0, 8, .inl (g)))]) [0, 1, 2] rfl
  have hDc := hD.sub (ws' := [(h0, .inr (3, [.ref x1, .ref x2, .int v1, .int v2, .int v3, .int v4, .int v5, .int (nI oc)])), (x1, .inl (G.2 0, 200, .inl (f))), (x2, .inl (G.2 0, 8, .inl (g)))]) [0, 1, 2] (by decide) rfl
  have hFc := va_free (wc := [(h0, .inr (3, [.ref x1, .ref x2, .int v1, .int v2, .int v3, .int v4, .int v5, .int (nI oc)])), (x1, .inl (G.2 0, 200, .inl (f))), (x2, .inl (G.2 0, 8, .inl (g)))]) hD hS hA [0, 1, 2] rfl
  refine va_calli (va_runV (As := []) (rest := []) ⟨hx, hb, hml, hown, hts⟩ (g_Ma_pop l G _ h0 x1 x2 f g v1 v2 v3 v4 v5 oc  ) (cwV 0 hts (nn_gV mw_860 mw_857 mw_859 mw_40 mw_93) rfl rfl rfl (by decide +kernel) ⟨Nat.le_of_ble_eq_true rfl, Nat.le_of_ble_eq_true rfl⟩) (nn_preV (va_recv hK hP rfl (q0 := 0) rfl) hPc hDc hK hN) rfl rfl hl.1 rfl (lv_room (Nat.le_of_ble_eq_true rfl)) d_Ma_storeElement_1 ⟨(Nat.le_of_ble_eq_true rfl), (Nat.le_of_ble_eq_true rfl)⟩) hS (fun q _ h => hFc q h) hFc (fun r2 u1 t H locs ht hvm hw hB hz1 hk1 hS => ?_)
  obtain ⟨w3, w4, w5, w6, w7, w8, w9, w10⟩ := u1
  dsimp only at hB hw
  have hw9 : oc = w10 := hw.symm
  subst hw9
  obtain ⟨hP1, hD1⟩ := hB
  rw [ht] at hP1
  obtain ⟨hP, hD⟩ := va_join (wr := []) (w1 := [(h0, .inr (3, [.ref x1, .ref x2, .int w5, .int w6, .int w7, .int w8, .int w9, .int (nI oc)])), (x1, .inl (G.2 0, 200, .inl (w3))), (x2, .inl (G.2 0, 8, .inl (w4)))]) hP hD [0, 1, 2] [] rfl rfl (by decide) (by decide) hk1 hFc hP1 hD1
  have hP : va_P G.1 nn_cls [(h0, .inr (3, [.ref x1, .ref x2, .int w5, .int w6, .int w7, .int w8, .int w9, .int (nI oc)])), (x1, .inl (G.2 0, 200, .inl (w3))), (x2, .inl (G.2 0, 8, .inl (w4)))] H := hP
  have hD : va_D A [(h0, .inr (3, [.ref x1, .ref x2, .int w5, .int w6, .int w7, .int w8, .int w9, .int (nI oc)])), (x1, .inl (G.2 0, 200, .inl (w3))), (x2, .inl (G.2 0, 8, .inl (w4)))] := hD
  refine W.widen (k := 0) (n := 0) (Nat.le_of_ble_eq_true rfl) (Nat.le_of_ble_eq_true rfl) ?_
  refine lv_istore_n (lv' := [(2, .int r2), (0, .ref h0), (1, .int k)]) hx hb d_Ma_storeElement_4 rfl hl (by decide) rfl (fun ls hl => ?_)
  refine lv_aload_n hx hb d_Ma_storeElement_5 rfl (lv_at hl 1 rfl) ?_
  have hPc := hP.sub (ws' := [(h0, .inr (3, [.ref x1, .ref x2, .int w5, .int w6, .int w7, .int w8, .int w9, .int (nI oc)])), (x1, .inl (G.2 0, 200, .inl (w3))), (x2, .inl (G.2 0, 8, .inl (w4)))]) [0, 1, 2] rfl
  have hDc := hD.sub (ws' := [(h0, .inr (3, [.ref x1, .ref x2, .int w5, .int w6, .int w7, .int w8, .int w9, .int (nI oc)])), (x1, .inl (G.2 0, 200, .inl (w3))), (x2, .inl (G.2 0, 8, .inl (w4)))]) [0, 1, 2] (by decide) rfl
  have hFc := va_free (wc := [(h0, .inr (3, [.ref x1, .ref x2, .int w5, .int w6, .int w7, .int w8, .int w9, .int (nI oc)])), (x1, .inl (G.2 0, 200, .inl (w3))), (x2, .inl (G.2 0, 8, .inl (w4)))]) hD hS hA [0, 1, 2] rfl
  refine va_calli (va_runV (As := []) (rest := []) ⟨hx, hb, hml, hown, hts⟩ (g_Ma_pop l G _ h0 x1 x2 w3 w4 w5 w6 w7 w8 w9 oc  ) (cwV 0 hts (nn_gV mw_860 mw_857 mw_859 mw_40 mw_93) rfl rfl rfl (by decide +kernel) ⟨Nat.le_of_ble_eq_true rfl, Nat.le_of_ble_eq_true rfl⟩) (nn_preV (va_recv hK hP rfl (q0 := 0) rfl) hPc hDc hK hN) rfl rfl hl.1 rfl (lv_room (Nat.le_of_ble_eq_true rfl)) d_Ma_storeElement_6 ⟨(Nat.le_of_ble_eq_true rfl), (Nat.le_of_ble_eq_true rfl)⟩) hS (fun q _ h => hFc q h) hFc (fun r12 u11 t H locs ht hvm hw hB hz1 hk1 hS => ?_)
  obtain ⟨w13, w14, w15, w16, w17, w18, w19, w20⟩ := u11
  dsimp only at hB hw
  have hw9 : oc = w20 := hw.symm
  subst hw9
  obtain ⟨hP1, hD1⟩ := hB
  rw [ht] at hP1
  obtain ⟨hP, hD⟩ := va_join (wr := []) (w1 := [(h0, .inr (3, [.ref x1, .ref x2, .int w15, .int w16, .int w17, .int w18, .int w19, .int (nI oc)])), (x1, .inl (G.2 0, 200, .inl (w13))), (x2, .inl (G.2 0, 8, .inl (w14)))]) hP hD [0, 1, 2] [] rfl rfl (by decide) (by decide) hk1 hFc hP1 hD1
  have hP : va_P G.1 nn_cls [(h0, .inr (3, [.ref x1, .ref x2, .int w15, .int w16, .int w17, .int w18, .int w19, .int (nI oc)])), (x1, .inl (G.2 0, 200, .inl (w13))), (x2, .inl (G.2 0, 8, .inl (w14)))] H := hP
  have hD : va_D A [(h0, .inr (3, [.ref x1, .ref x2, .int w15, .int w16, .int w17, .int w18, .int w19, .int (nI oc)])), (x1, .inl (G.2 0, 200, .inl (w13))), (x2, .inl (G.2 0, 8, .inl (w14)))] := hD
  refine W.widen (k := 0) (n := 0) (Nat.le_of_ble_eq_true rfl) (Nat.le_of_ble_eq_true rfl) ?_
  refine lv_istore_n (lv' := [(3, .int r12), (2, .int r2), (0, .ref h0), (1, .int k)]) hx hb d_Ma_storeElement_9 rfl hl (by decide) rfl (fun ls hl => ?_)
  refine lv_aload_n hx hb d_Ma_storeElement_10 rfl (lv_at hl 2 rfl) ?_
  refine lv_iload_n hx hb d_Ma_storeElement_11 rfl (lv_at hl 3 rfl) ?_
  refine lv_iload_n hx hb d_Ma_storeElement_12 rfl (lv_at hl 0 rfl) ?_
  refine lv_iadd hx hb d_Ma_storeElement_13 ?_
  refine lv_iload_n hx hb d_Ma_storeElement_14 rfl (lv_at hl 1 rfl) ?_
  have hPc := hP.sub (ws' := [(h0, .inr (3, [.ref x1, .ref x2, .int w15, .int w16, .int w17, .int w18, .int w19, .int (nI oc)])), (x1, .inl (G.2 0, 200, .inl (w13))), (x2, .inl (G.2 0, 8, .inl (w14)))]) [0, 1, 2] rfl
  have hDc := hD.sub (ws' := [(h0, .inr (3, [.ref x1, .ref x2, .int w15, .int w16, .int w17, .int w18, .int w19, .int (nI oc)])), (x1, .inl (G.2 0, 200, .inl (w13))), (x2, .inl (G.2 0, 8, .inl (w14)))]) [0, 1, 2] (by decide) rfl
  have hFc := va_free (wc := [(h0, .inr (3, [.ref x1, .ref x2, .int w15, .int w16, .int w17, .int w18, .int w19, .int (nI oc)])), (x1, .inl (G.2 0, 200, .inl (w13))), (x2, .inl (G.2 0, 8, .inl (w14)))]) hD hS hA [0, 1, 2] rfl
  refine va_callv (va_runV (As := [.int (k + r12), .int r2]) (rest := []) ⟨hx, hb, hml, hown, hts⟩ (g_Ma_put l G _ h0 x1 x2 w13 w14 w15 w16 w17 w18 w19 oc (k + r12) r2 ) (cwV 2 hts (nn_gV mw_856 mw_853 mw_855 mw_39 mw_93) rfl rfl rfl (by decide +kernel) ⟨Nat.le_of_ble_eq_true rfl, Nat.le_of_ble_eq_true rfl⟩) (nn_preV (va_recv hK hP rfl (q0 := 0) rfl) hPc hDc hK hN) rfl rfl hl.1 rfl (lv_room (Nat.le_of_ble_eq_true rfl)) d_Ma_storeElement_15 ⟨(Nat.le_of_ble_eq_true rfl), (Nat.le_of_ble_eq_true rfl)⟩) hS (fun q _ h => hFc q h) hFc (fun u21 t H locs ht hvm hw hB hz1 hk1 hS => ?_)
  obtain ⟨w22, w23, w24, w25, w26, w27, w28, w29⟩ := u21
  dsimp only at hB hw
  have hw9 : oc = w29 := hw.symm
  subst hw9
  obtain ⟨hP1, hD1⟩ := hB
  rw [ht] at hP1
  obtain ⟨hP, hD⟩ := va_join (wr := []) (w1 := [(h0, .inr (3, [.ref x1, .ref x2, .int w24, .int w25, .int w26, .int w27, .int w28, .int (nI oc)])), (x1, .inl (G.2 0, 200, .inl (w22))), (x2, .inl (G.2 0, 8, .inl (w23)))]) hP hD [0, 1, 2] [] rfl rfl (by decide) (by decide) hk1 hFc hP1 hD1
  have hP : va_P G.1 nn_cls [(h0, .inr (3, [.ref x1, .ref x2, .int w24, .int w25, .int w26, .int w27, .int w28, .int (nI oc)])), (x1, .inl (G.2 0, 200, .inl (w22))), (x2, .inl (G.2 0, 8, .inl (w23)))] H := hP
  have hD : va_D A [(h0, .inr (3, [.ref x1, .ref x2, .int w24, .int w25, .int w26, .int w27, .int w28, .int (nI oc)])), (x1, .inl (G.2 0, 200, .inl (w22))), (x2, .inl (G.2 0, 8, .inl (w23)))] := hD
  refine W.widen (k := 0) (n := 0) (Nat.le_of_ble_eq_true rfl) (Nat.le_of_ble_eq_true rfl) ?_
  refine W.widen (k := 0) (n := 0) (Nat.le_of_ble_eq_true rfl) (Nat.le_of_ble_eq_true rfl) ?_
  have hP9 := hP.sub (ws' := [(h0, .inr (3, [.ref x1, .ref x2, .int w24, .int w25, .int w26, .int w27, .int w28, .int (nI oc)])), (x1, .inl (G.2 0, 200, .inl (w22))), (x2, .inl (G.2 0, 8, .inl (w23)))]) [0, 1, 2] rfl
  have hD9 := hD.sub (ws' := [(h0, .inr (3, [.ref x1, .ref x2, .int w24, .int w25, .int w26, .int w27, .int w28, .int (nI oc)])), (x1, .inl (G.2 0, 200, .inl (w22))), (x2, .inl (G.2 0, 8, .inl (w23)))]) [0, 1, 2] (by decide) rfl
  exact W.vret hx hb hr (fun t ht hW => ⟨⟨(w22, w23, w24, w25, w26, w27, w28, oc), rfl, rfl, ⟨by rw [ht]; exact hP9, hD9⟩⟩, hS.F ht⟩) hS.2.2 d_Ma_storeElement_18

theorem mw_3 : (.selects R_Ma y_Ma_linked y_Ma_linked : Cond) ∈ nn_gw := nn_at 3 (by decide +kernel) (by decide +kernel)
theorem mw_249 : (.fieldLink R_Ma 22 R_Ma "next" "I" : Cond) ∈ nn_gw := nn_at 249 (by decide +kernel) (by decide +kernel)
theorem mw_252 : (.fieldLink R_Ma 31 R_Ma "frames" "I" : Cond) ∈ nn_gw := nn_at 252 (by decide +kernel) (by decide +kernel)
theorem mw_385 : (.methodLink R_Ma 50 y_Ma_linked : Cond) ∈ nn_gw := nn_at 385 (by decide +kernel) (by decide +kernel)
theorem mw_387 : (.instanceMethod y_Ma_linked : Cond) ∈ nn_gw := nn_at 387 (by decide +kernel) (by decide +kernel)
theorem mw_388 : (.code y_Ma_linked b_Ma_linked 4 (some .int) : Cond) ∈ nn_gw := nn_at 388 (by decide +kernel) (by decide +kernel)
theorem d_Ma_enter_0 : decode b_Ma_enter 0 = .ok (.aload_n 0, 1) := by decide +kernel
theorem d_Ma_enter_1 : decode b_Ma_enter 1 = .ok (.getfield 28, 3) := by decide +kernel
theorem d_Ma_enter_4 : decode b_Ma_enter 4 = .ok (.iconst 1, 1) := by decide +kernel
theorem d_Ma_enter_5 : decode b_Ma_enter 5 = .ok (.iadd, 1) := by decide +kernel
theorem d_Ma_enter_6 : decode b_Ma_enter 6 = .ok (.istore_n 3, 1) := by decide +kernel
theorem d_Ma_enter_7 : decode b_Ma_enter 7 = .ok (.aload_n 0, 1) := by decide +kernel
theorem d_Ma_enter_8 : decode b_Ma_enter 8 = .ok (.iload_n 3, 1) := by decide +kernel
theorem d_Ma_enter_9 : decode b_Ma_enter 9 = .ok (.aload_n 0, 1) := by decide +kernel
theorem d_Ma_enter_10 : decode b_Ma_enter 10 = .ok (.iload_n 1, 1) := by decide +kernel
theorem d_Ma_enter_11 : decode b_Ma_enter 11 = .ok (.invokevirtual 50, 3) := by decide +kernel
theorem d_Ma_enter_14 : decode b_Ma_enter 14 = .ok (.invokevirtual 83, 3) := by decide +kernel
theorem d_Ma_enter_17 : decode b_Ma_enter 17 = .ok (.aload_n 0, 1) := by decide +kernel
theorem d_Ma_enter_18 : decode b_Ma_enter 18 = .ok (.iload_n 3, 1) := by decide +kernel
theorem d_Ma_enter_19 : decode b_Ma_enter 19 = .ok (.iconst 1, 1) := by decide +kernel
theorem d_Ma_enter_20 : decode b_Ma_enter 20 = .ok (.iadd, 1) := by decide +kernel
theorem d_Ma_enter_21 : decode b_Ma_enter 21 = .ok (.aload_n 0, 1) := by decide +kernel
theorem d_Ma_enter_22 : decode b_Ma_enter 22 = .ok (.getfield 25, 3) := by decide +kernel
theorem d_Ma_enter_25 : decode b_Ma_enter 25 = .ok (.invokevirtual 83, 3) := by decide +kernel
theorem d_Ma_enter_28 : decode b_Ma_enter 28 = .ok (.aload_n 0, 1) := by decide +kernel
theorem d_Ma_enter_29 : decode b_Ma_enter 29 = .ok (.iload_n 3, 1) := by decide +kernel
theorem d_Ma_enter_30 : decode b_Ma_enter 30 = .ok (.iconst 2, 1) := by decide +kernel
theorem d_Ma_enter_31 : decode b_Ma_enter 31 = .ok (.iadd, 1) := by decide +kernel
theorem d_Ma_enter_32 : decode b_Ma_enter 32 = .ok (.aload_n 0, 1) := by decide +kernel
theorem d_Ma_enter_33 : decode b_Ma_enter 33 = .ok (.getfield 22, 3) := by decide +kernel
theorem d_Ma_enter_36 : decode b_Ma_enter 36 = .ok (.invokevirtual 83, 3) := by decide +kernel
theorem d_Ma_enter_39 : decode b_Ma_enter 39 = .ok (.aload_n 0, 1) := by decide +kernel
theorem d_Ma_enter_40 : decode b_Ma_enter 40 = .ok (.iload_n 3, 1) := by decide +kernel
theorem d_Ma_enter_41 : decode b_Ma_enter 41 = .ok (.putfield 25, 3) := by decide +kernel
theorem d_Ma_enter_44 : decode b_Ma_enter 44 = .ok (.aload_n 0, 1) := by decide +kernel
theorem d_Ma_enter_45 : decode b_Ma_enter 45 = .ok (.iload_n 2, 1) := by decide +kernel
theorem d_Ma_enter_46 : decode b_Ma_enter 46 = .ok (.putfield 22, 3) := by decide +kernel
theorem d_Ma_enter_49 : decode b_Ma_enter 49 = .ok (.aload_n 0, 1) := by decide +kernel
theorem d_Ma_enter_50 : decode b_Ma_enter 50 = .ok (.dup, 1) := by decide +kernel
theorem d_Ma_enter_51 : decode b_Ma_enter 51 = .ok (.getfield 31, 3) := by decide +kernel
theorem d_Ma_enter_54 : decode b_Ma_enter 54 = .ok (.iconst 1, 1) := by decide +kernel
theorem d_Ma_enter_55 : decode b_Ma_enter 55 = .ok (.iadd, 1) := by decide +kernel
theorem d_Ma_enter_56 : decode b_Ma_enter 56 = .ok (.putfield 31, 3) := by decide +kernel
theorem d_Ma_enter_59 : decode b_Ma_enter 59 = .ok (.return_, 1) := by decide +kernel

set_option maxHeartbeats 4000000 in
set_option maxRecDepth 100000 in
theorem g_Ma_enter (l : Launch) (G : nn_G) (sz : Nat) (h0 x1 x2 : Nat) (f g : Nat → Int32) (v1 v2 v3 v4 v5 : Int32) (oc : Nat) (k j : Int32) : Met l y_Ma_enter w_Ma_enter ({ frames := 2, cells := 0, slots := 0, locals := 44 }) (nn_P G [.ref h0, .int k, .int j] [(h0, .inr (3, [.ref x1, .ref x2, .int v1, .int v2, .int v3, .int v4, .int v5, .int (nI oc)])), (x1, .inl (G.2 0, 200, .inl (f))), (x2, .inl (G.2 0, 8, .inl (g)))] sz) (va_Qv (fun u : (Nat → Int32) × (Nat → Int32) × Int32 × Int32 × Int32 × Int32 × Int32 × Nat => u.2.2.2.2.2.2.2 = oc) (fun u t => va_P G.1 nn_cls [(h0, .inr (3, [.ref x1, .ref x2, .int u.2.2.1, .int u.2.2.2.1, .int u.2.2.2.2.1, .int u.2.2.2.2.2.1, .int u.2.2.2.2.2.2.1, .int (nI u.2.2.2.2.2.2.2)])), (x1, .inl (G.2 0, 200, .inl (u.1))), (x2, .inl (G.2 0, 8, .inl (u.2.1)))] t.heap ∧ va_D (va_A [(h0, .inr (3, [.ref x1, .ref x2, .int v1, .int v2, .int v3, .int v4, .int v5, .int (nI oc)])), (x1, .inl (G.2 0, 200, .inl (f))), (x2, .inl (G.2 0, 8, .inl (g)))] sz) [(h0, .inr (3, [.ref x1, .ref x2, .int u.2.2.1, .int u.2.2.2.1, .int u.2.2.2.2.1, .int u.2.2.2.2.2.1, .int u.2.2.2.2.2.2.1, .int (nI u.2.2.2.2.2.2.2)])), (x1, .inl (G.2 0, 200, .inl (u.1))), (x2, .inl (G.2 0, 8, .inl (u.2.1)))]) (va_A [(h0, .inr (3, [.ref x1, .ref x2, .int v1, .int v2, .int v3, .int v4, .int v5, .int (nI oc)])), (x1, .inl (G.2 0, 200, .inl (f))), (x2, .inl (G.2 0, 8, .inl (g)))] sz)) 0 0 (va_A [(h0, .inr (3, [.ref x1, .ref x2, .int v1, .int v2, .int v3, .int v4, .int v5, .int (nI oc)])), (x1, .inl (G.2 0, 200, .inl (f))), (x2, .inl (G.2 0, 8, .inl (g)))] sz) := by
  refine Met.ofW (cc := b_Ma_enter) (maxL := 4) (ret := none) (by decide) rfl ?_
  intro p e s m args below meth c s₁ B hml hv
  obtain ⟨rfl, hsz, hP, hK, hD0, hN⟩ := hv
  have hx := B.exec
  have hb := B.bytes
  have hr := B.returns
  have hts := atoms_spec (ws := w_Ma_enter) B.pre
  have hg : ∀ w ∈ nn_gw, w.before _ s = true := fun w h => hts w (List.mem_cons_of_mem _ h)
  have hown : s.vm.findClass R_Ma = some m.cls := findClass_of_methodNamed B.named
  have hlocks := B.notSynchronized
  subst hsz
  have hD := hD0.self (sz := s.heap.size)
  generalize hAe : va_A [(h0, .inr (3, [.ref x1, .ref x2, .int v1, .int v2, .int v3, .int v4, .int v5, .int (nI oc)])), (x1, .inl (G.2 0, 200, .inl (f))), (x2, .inl (G.2 0, 8, .inl (g)))] s.heap.size = A at hD ⊢
  have hA : ∀ q : Nat, s.heap.size ≤ q → A q := fun q h => by rw [← hAe]; exact Or.inr h
  have hS : va_S A s.heap s.heap [] := va_S.rf
  have hP : va_P G.1 nn_cls [(h0, .inr (3, [.ref x1, .ref x2, .int v1, .int v2, .int v3, .int v4, .int v5, .int (nI oc)])), (x1, .inl (G.2 0, 200, .inl (f))), (x2, .inl (G.2 0, 8, .inl (g)))] s.heap := hP
  have hl := lv_entry ([.ref h0, .int k, .int j]) (n := 4) (Nat.le_of_ble_eq_true rfl)
  rw [lg_entry_eq]
  generalize (lg_sl ([.ref h0, .int k, .int j]) ++ List.replicate (4 - (lg_sl ([.ref h0, .int k, .int j])).length) Slot.unset).toArray = ls at hl ⊢
  have hl : lv_has ls 4 [(0, .ref h0), (1, .int k), (2, .int j)] := hl
  refine lv_aload_n hx hb d_Ma_enter_0 rfl (lv_at hl 0 rfl) ?_
  refine va_get (D := G.1) (ci := 3) (v := .int v4) (C := R_Ma) (T := T_Ma) (N := 8) hx hb hg in_Ma hown hK hP 0 rfl rfl 5 (by decide) (hg _ mw_251) (fun _ h9 => h9) rfl d_Ma_enter_1 ?_
  refine lv_iconst (v := 1) hx hb d_Ma_enter_4 (by decide) ?_
  refine lv_iadd hx hb d_Ma_enter_5 ?_
  refine lv_istore_n (lv' := [(3, .int (v4 + 1)), (0, .ref h0), (1, .int k), (2, .int j)]) hx hb d_Ma_enter_6 rfl hl (by decide) rfl (fun ls hl => ?_)
  refine lv_aload_n hx hb d_Ma_enter_7 rfl (lv_at hl 1 rfl) ?_
  refine lv_iload_n hx hb d_Ma_enter_8 rfl (lv_at hl 0 rfl) ?_
  refine lv_aload_n hx hb d_Ma_enter_9 rfl (lv_at hl 1 rfl) ?_
  refine lv_iload_n hx hb d_Ma_enter_10 rfl (lv_at hl 2 rfl) ?_
  have hPc := hP.sub (ws' := [(h0, .inr (3, [.ref x1, .ref x2, .int v1, .int v2, .int v3, .int v4, .int v5, .int (nI oc)])), (x1, .inl (G.2 0, 200, .inl (f))), (x2, .inl (G.2 0, 8, .inl (g)))]) [0, 1, 2] rfl
  have hDc := hD.sub (ws' := [(h0, .inr (3, [.ref x1, .ref x2, .int v1, .int v2, .int v3, .int v4, .int v5, .int (nI oc)])), (x1, .inl (G.2 0, 200, .inl (f))), (x2, .inl (G.2 0, 8, .inl (g)))]) [0, 1, 2] (by decide) rfl
  refine vp_callSi (va_Run.run (va_runV (As := [.int k]) (rest := [.int (v4 + 1), .ref h0]) ⟨hx, hb, hml, hown, hts⟩ (g_Ma_linked l G _ h0 x1 x2 f g v1 v2 v3 v4 v5 oc k) (cwV 1 hts (nn_gV mw_388 mw_385 mw_387 mw_3 mw_93) rfl rfl rfl (by decide +kernel) ⟨Nat.le_of_ble_eq_true rfl, Nat.le_of_ble_eq_true rfl⟩) (nn_preV (va_recv hK hP rfl (q0 := 0) rfl) hPc hDc hK hN) rfl rfl hl.1 rfl (lv_room (Nat.le_of_ble_eq_true rfl)) d_Ma_enter_11 ⟨(Nat.le_of_ble_eq_true rfl), (Nat.le_of_ble_eq_true rfl)⟩)) (fun r1 er1 => ?_)
  have hPc := hP.sub (ws' := [(h0, .inr (3, [.ref x1, .ref x2, .int v1, .int v2, .int v3, .int v4, .int v5, .int (nI oc)])), (x1, .inl (G.2 0, 200, .inl (f))), (x2, .inl (G.2 0, 8, .inl (g)))]) [0, 1, 2] rfl
  have hDc := hD.sub (ws' := [(h0, .inr (3, [.ref x1, .ref x2, .int v1, .int v2, .int v3, .int v4, .int v5, .int (nI oc)])), (x1, .inl (G.2 0, 200, .inl (f))), (x2, .inl (G.2 0, 8, .inl (g)))]) [0, 1, 2] (by decide) rfl
  have hFc := va_free (wc := [(h0, .inr (3, [.ref x1, .ref x2, .int v1, .int v2, .int v3, .int v4, .int v5, .int (nI oc)])), (x1, .inl (G.2 0, 200, .inl (f))), (x2, .inl (G.2 0, 8, .inl (g)))]) hD hS hA [0, 1, 2] rfl
  refine va_callv (va_runV (As := [.int (v4 + 1), .int r1]) (rest := []) ⟨hx, hb, hml, hown, hts⟩ (g_Ma_put l G _ h0 x1 x2 f g v1 v2 v3 v4 v5 oc (v4 + 1) r1 ) (cwV 2 hts (nn_gV mw_856 mw_853 mw_855 mw_39 mw_93) rfl rfl rfl (by decide +kernel) ⟨Nat.le_of_ble_eq_true rfl, Nat.le_of_ble_eq_true rfl⟩) (nn_preV (va_recv hK hP rfl (q0 := 0) rfl) hPc hDc hK hN) rfl rfl hl.1 rfl (lv_room (Nat.le_of_ble_eq_true rfl)) d_Ma_enter_14 ⟨(Nat.le_of_ble_eq_true rfl), (Nat.le_of_ble_eq_true rfl)⟩) hS (fun q _ h => hFc q h) hFc (fun u2 t H locs ht hvm hw hB hz1 hk1 hS => ?_)
  obtain ⟨w3, w4, w5, w6, w7, w8, w9, w10⟩ := u2
  dsimp only at hB hw
  have hw9 : oc = w10 := hw.symm
  subst hw9
  obtain ⟨hP1, hD1⟩ := hB
  rw [ht] at hP1
  obtain ⟨hP, hD⟩ := va_join (wr := []) (w1 := [(h0, .inr (3, [.ref x1, .ref x2, .int w5, .int w6, .int w7, .int w8, .int w9, .int (nI oc)])), (x1, .inl (G.2 0, 200, .inl (w3))), (x2, .inl (G.2 0, 8, .inl (w4)))]) hP hD [0, 1, 2] [] rfl rfl (by decide) (by decide) hk1 hFc hP1 hD1
  have hP : va_P G.1 nn_cls [(h0, .inr (3, [.ref x1, .ref x2, .int w5, .int w6, .int w7, .int w8, .int w9, .int (nI oc)])), (x1, .inl (G.2 0, 200, .inl (w3))), (x2, .inl (G.2 0, 8, .inl (w4)))] H := hP
  have hD : va_D A [(h0, .inr (3, [.ref x1, .ref x2, .int w5, .int w6, .int w7, .int w8, .int w9, .int (nI oc)])), (x1, .inl (G.2 0, 200, .inl (w3))), (x2, .inl (G.2 0, 8, .inl (w4)))] := hD
  refine W.widen (k := 0) (n := 0) (Nat.le_of_ble_eq_true rfl) (Nat.le_of_ble_eq_true rfl) ?_
  refine lv_aload_n hx hb d_Ma_enter_17 rfl (lv_at hl 1 rfl) ?_
  refine lv_iload_n hx hb d_Ma_enter_18 rfl (lv_at hl 0 rfl) ?_
  refine lv_iconst (v := 1) hx hb d_Ma_enter_19 (by decide) ?_
  refine lv_iadd hx hb d_Ma_enter_20 ?_
  refine lv_aload_n hx hb d_Ma_enter_21 rfl (lv_at hl 1 rfl) ?_
  refine va_get (D := G.1) (ci := 3) (v := .int w7) (C := R_Ma) (T := T_Ma) (N := 8) hx hb hg in_Ma hown hK hP 0 rfl rfl 4 (by decide) (hg _ mw_250) (fun _ h9 => h9) rfl d_Ma_enter_22 ?_
  have hPc := hP.sub (ws' := [(h0, .inr (3, [.ref x1, .ref x2, .int w5, .int w6, .int w7, .int w8, .int w9, .int (nI oc)])), (x1, .inl (G.2 0, 200, .inl (w3))), (x2, .inl (G.2 0, 8, .inl (w4)))]) [0, 1, 2] rfl
  have hDc := hD.sub (ws' := [(h0, .inr (3, [.ref x1, .ref x2, .int w5, .int w6, .int w7, .int w8, .int w9, .int (nI oc)])), (x1, .inl (G.2 0, 200, .inl (w3))), (x2, .inl (G.2 0, 8, .inl (w4)))]) [0, 1, 2] (by decide) rfl
  have hFc := va_free (wc := [(h0, .inr (3, [.ref x1, .ref x2, .int w5, .int w6, .int w7, .int w8, .int w9, .int (nI oc)])), (x1, .inl (G.2 0, 200, .inl (w3))), (x2, .inl (G.2 0, 8, .inl (w4)))]) hD hS hA [0, 1, 2] rfl
  refine va_callv (va_runV (As := [.int ((v4 + 1) + 1), .int w7]) (rest := []) ⟨hx, hb, hml, hown, hts⟩ (g_Ma_put l G _ h0 x1 x2 w3 w4 w5 w6 w7 w8 w9 oc ((v4 + 1) + 1) w7 ) (cwV 2 hts (nn_gV mw_856 mw_853 mw_855 mw_39 mw_93) rfl rfl rfl (by decide +kernel) ⟨Nat.le_of_ble_eq_true rfl, Nat.le_of_ble_eq_true rfl⟩) (nn_preV (va_recv hK hP rfl (q0 := 0) rfl) hPc hDc hK hN) rfl rfl hl.1 rfl (lv_room (Nat.le_of_ble_eq_true rfl)) d_Ma_enter_25 ⟨(Nat.le_of_ble_eq_true rfl), (Nat.le_of_ble_eq_true rfl)⟩) hS (fun q _ h => hFc q h) hFc (fun u11 t H locs ht hvm hw hB hz1 hk1 hS => ?_)
  obtain ⟨w12, w13, w14, w15, w16, w17, w18, w19⟩ := u11
  dsimp only at hB hw
  have hw9 : oc = w19 := hw.symm
  subst hw9
  obtain ⟨hP1, hD1⟩ := hB
  rw [ht] at hP1
  obtain ⟨hP, hD⟩ := va_join (wr := []) (w1 := [(h0, .inr (3, [.ref x1, .ref x2, .int w14, .int w15, .int w16, .int w17, .int w18, .int (nI oc)])), (x1, .inl (G.2 0, 200, .inl (w12))), (x2, .inl (G.2 0, 8, .inl (w13)))]) hP hD [0, 1, 2] [] rfl rfl (by decide) (by decide) hk1 hFc hP1 hD1
  have hP : va_P G.1 nn_cls [(h0, .inr (3, [.ref x1, .ref x2, .int w14, .int w15, .int w16, .int w17, .int w18, .int (nI oc)])), (x1, .inl (G.2 0, 200, .inl (w12))), (x2, .inl (G.2 0, 8, .inl (w13)))] H := hP
  have hD : va_D A [(h0, .inr (3, [.ref x1, .ref x2, .int w14, .int w15, .int w16, .int w17, .int w18, .int (nI oc)])), (x1, .inl (G.2 0, 200, .inl (w12))), (x2, .inl (G.2 0, 8, .inl (w13)))] := hD
  refine W.widen (k := 0) (n := 0) (Nat.le_of_ble_eq_true rfl) (Nat.le_of_ble_eq_true rfl) ?_
  refine lv_aload_n hx hb d_Ma_enter_28 rfl (lv_at hl 1 rfl) ?_
  refine lv_iload_n hx hb d_Ma_enter_29 rfl (lv_at hl 0 rfl) ?_
  refine lv_iconst (v := 2) hx hb d_Ma_enter_30 (by decide) ?_
  refine lv_iadd hx hb d_Ma_enter_31 ?_
  refine lv_aload_n hx hb d_Ma_enter_32 rfl (lv_at hl 1 rfl) ?_
  refine va_get (D := G.1) (ci := 3) (v := .int w15) (C := R_Ma) (T := T_Ma) (N := 8) hx hb hg in_Ma hown hK hP 0 rfl rfl 3 (by decide) (hg _ mw_249) (fun _ h9 => h9) rfl d_Ma_enter_33 ?_
  have hPc := hP.sub (ws' := [(h0, .inr (3, [.ref x1, .ref x2, .int w14, .int w15, .int w16, .int w17, .int w18, .int (nI oc)])), (x1, .inl (G.2 0, 200, .inl (w12))), (x2, .inl (G.2 0, 8, .inl (w13)))]) [0, 1, 2] rfl
  have hDc := hD.sub (ws' := [(h0, .inr (3, [.ref x1, .ref x2, .int w14, .int w15, .int w16, .int w17, .int w18, .int (nI oc)])), (x1, .inl (G.2 0, 200, .inl (w12))), (x2, .inl (G.2 0, 8, .inl (w13)))]) [0, 1, 2] (by decide) rfl
  have hFc := va_free (wc := [(h0, .inr (3, [.ref x1, .ref x2, .int w14, .int w15, .int w16, .int w17, .int w18, .int (nI oc)])), (x1, .inl (G.2 0, 200, .inl (w12))), (x2, .inl (G.2 0, 8, .inl (w13)))]) hD hS hA [0, 1, 2] rfl
  refine va_callv (va_runV (As := [.int ((v4 + 1) + 2), .int w15]) (rest := []) ⟨hx, hb, hml, hown, hts⟩ (g_Ma_put l G _ h0 x1 x2 w12 w13 w14 w15 w16 w17 w18 oc ((v4 + 1) + 2) w15 ) (cwV 2 hts (nn_gV mw_856 mw_853 mw_855 mw_39 mw_93) rfl rfl rfl (by decide +kernel) ⟨Nat.le_of_ble_eq_true rfl, Nat.le_of_ble_eq_true rfl⟩) (nn_preV (va_recv hK hP rfl (q0 := 0) rfl) hPc hDc hK hN) rfl rfl hl.1 rfl (lv_room (Nat.le_of_ble_eq_true rfl)) d_Ma_enter_36 ⟨(Nat.le_of_ble_eq_true rfl), (Nat.le_of_ble_eq_true rfl)⟩) hS (fun q _ h => hFc q h) hFc (fun u20 t H locs ht hvm hw hB hz1 hk1 hS => ?_)
  obtain ⟨w21, w22, w23, w24, w25, w26, w27, w28⟩ := u20
  dsimp only at hB hw
  have hw9 : oc = w28 := hw.symm
  subst hw9
  obtain ⟨hP1, hD1⟩ := hB
  rw [ht] at hP1
  obtain ⟨hP, hD⟩ := va_join (wr := []) (w1 := [(h0, .inr (3, [.ref x1, .ref x2, .int w23, .int w24, .int w25, .int w26, .int w27, .int (nI oc)])), (x1, .inl (G.2 0, 200, .inl (w21))), (x2, .inl (G.2 0, 8, .inl (w22)))]) hP hD [0, 1, 2] [] rfl rfl (by decide) (by decide) hk1 hFc hP1 hD1
  have hP : va_P G.1 nn_cls [(h0, .inr (3, [.ref x1, .ref x2, .int w23, .int w24, .int w25, .int w26, .int w27, .int (nI oc)])), (x1, .inl (G.2 0, 200, .inl (w21))), (x2, .inl (G.2 0, 8, .inl (w22)))] H := hP
  have hD : va_D A [(h0, .inr (3, [.ref x1, .ref x2, .int w23, .int w24, .int w25, .int w26, .int w27, .int (nI oc)])), (x1, .inl (G.2 0, 200, .inl (w21))), (x2, .inl (G.2 0, 8, .inl (w22)))] := hD
  refine W.widen (k := 0) (n := 0) (Nat.le_of_ble_eq_true rfl) (Nat.le_of_ble_eq_true rfl) ?_
  refine lv_aload_n hx hb d_Ma_enter_39 rfl (lv_at hl 1 rfl) ?_
  refine lv_iload_n hx hb d_Ma_enter_40 rfl (lv_at hl 0 rfl) ?_
  refine va_put (D := G.1) (ci := 3) (v := .int (v4 + 1)) (ty := .int) (C := R_Ma) (T := T_Ma) (N := 8) hx hb hg in_Ma t_Ma ok_Ma nm_Ma hown hK hP hD hS 0 rfl rfl 4 (by decide) (hg _ mw_250) (fun _ h9 => h9) rfl (by decide +kernel) rfl rfl (Nat.le_of_ble_eq_true rfl) d_Ma_enter_41 (fun H locs hP hD hS => ?_)
  have hP : va_P G.1 nn_cls [(h0, .inr (3, [.ref x1, .ref x2, .int w23, .int w24, .int (v4 + 1), .int w26, .int w27, .int (nI oc)])), (x1, .inl (G.2 0, 200, .inl (w21))), (x2, .inl (G.2 0, 8, .inl (w22)))] H := hP
  have hD : va_D A [(h0, .inr (3, [.ref x1, .ref x2, .int w23, .int w24, .int (v4 + 1), .int w26, .int w27, .int (nI oc)])), (x1, .inl (G.2 0, 200, .inl (w21))), (x2, .inl (G.2 0, 8, .inl (w22)))] := hD
  refine lv_aload_n hx hb d_Ma_enter_44 rfl (lv_at hl 1 rfl) ?_
  refine lv_iload_n hx hb d_Ma_enter_45 rfl (lv_at hl 3 rfl) ?_
  refine va_put (D := G.1) (ci := 3) (v := .int j) (ty := .int) (C := R_Ma) (T := T_Ma) (N := 8) hx hb hg in_Ma t_Ma ok_Ma nm_Ma hown hK hP hD hS 0 rfl rfl 3 (by decide) (hg _ mw_249) (fun _ h9 => h9) rfl (by decide +kernel) rfl rfl (Nat.le_of_ble_eq_true rfl) d_Ma_enter_46 (fun H locs hP hD hS => ?_)
  have hP : va_P G.1 nn_cls [(h0, .inr (3, [.ref x1, .ref x2, .int w23, .int j, .int (v4 + 1), .int w26, .int w27, .int (nI oc)])), (x1, .inl (G.2 0, 200, .inl (w21))), (x2, .inl (G.2 0, 8, .inl (w22)))] H := hP
  have hD : va_D A [(h0, .inr (3, [.ref x1, .ref x2, .int w23, .int j, .int (v4 + 1), .int w26, .int w27, .int (nI oc)])), (x1, .inl (G.2 0, 200, .inl (w21))), (x2, .inl (G.2 0, 8, .inl (w22)))] := hD
  refine lv_aload_n hx hb d_Ma_enter_49 rfl (lv_at hl 1 rfl) ?_
  refine lv_dup hx hb d_Ma_enter_50 rfl ?_
  refine va_get (D := G.1) (ci := 3) (v := .int w27) (C := R_Ma) (T := T_Ma) (N := 8) hx hb hg in_Ma hown hK hP 0 rfl rfl 6 (by decide) (hg _ mw_252) (fun _ h9 => h9) rfl d_Ma_enter_51 ?_
  refine lv_iconst (v := 1) hx hb d_Ma_enter_54 (by decide) ?_
  refine lv_iadd hx hb d_Ma_enter_55 ?_
  refine va_put (D := G.1) (ci := 3) (v := .int (w27 + 1)) (ty := .int) (C := R_Ma) (T := T_Ma) (N := 8) hx hb hg in_Ma t_Ma ok_Ma nm_Ma hown hK hP hD hS 0 rfl rfl 6 (by decide) (hg _ mw_252) (fun _ h9 => h9) rfl (by decide +kernel) rfl rfl (Nat.le_of_ble_eq_true rfl) d_Ma_enter_56 (fun H locs hP hD hS => ?_)
  have hP : va_P G.1 nn_cls [(h0, .inr (3, [.ref x1, .ref x2, .int w23, .int j, .int (v4 + 1), .int w26, .int (w27 + 1), .int (nI oc)])), (x1, .inl (G.2 0, 200, .inl (w21))), (x2, .inl (G.2 0, 8, .inl (w22)))] H := hP
  have hD : va_D A [(h0, .inr (3, [.ref x1, .ref x2, .int w23, .int j, .int (v4 + 1), .int w26, .int (w27 + 1), .int (nI oc)])), (x1, .inl (G.2 0, 200, .inl (w21))), (x2, .inl (G.2 0, 8, .inl (w22)))] := hD
  refine W.widen (k := 0) (n := 0) (Nat.le_of_ble_eq_true rfl) (Nat.le_of_ble_eq_true rfl) ?_
  have hP9 := hP.sub (ws' := [(h0, .inr (3, [.ref x1, .ref x2, .int w23, .int j, .int (v4 + 1), .int w26, .int (w27 + 1), .int (nI oc)])), (x1, .inl (G.2 0, 200, .inl (w21))), (x2, .inl (G.2 0, 8, .inl (w22)))]) [0, 1, 2] rfl
  have hD9 := hD.sub (ws' := [(h0, .inr (3, [.ref x1, .ref x2, .int w23, .int j, .int (v4 + 1), .int w26, .int (w27 + 1), .int (nI oc)])), (x1, .inl (G.2 0, 200, .inl (w21))), (x2, .inl (G.2 0, 8, .inl (w22)))]) [0, 1, 2] (by decide) rfl
  exact W.vret hx hb hr (fun t ht hW => ⟨⟨(w21, w22, w23, j, (v4 + 1), w26, (w27 + 1), oc), rfl, rfl, ⟨by rw [ht]; exact hP9, hD9⟩⟩, hS.F ht⟩) hS.2.2 d_Ma_enter_59

theorem mw_248 : (.fieldLink R_Ma 18 R_Ma "state" "I" : Cond) ∈ nn_gw := nn_at 248 (by decide +kernel) (by decide +kernel)
theorem d_Ma_leave_0 : decode b_Ma_leave 0 = .ok (.aload_n 0, 1) := by decide +kernel
theorem d_Ma_leave_1 : decode b_Ma_leave 1 = .ok (.getfield 25, 3) := by decide +kernel
theorem d_Ma_leave_4 : decode b_Ma_leave 4 = .ok (.istore_n 2, 1) := by decide +kernel
theorem d_Ma_leave_5 : decode b_Ma_leave 5 = .ok (.aload_n 0, 1) := by decide +kernel
theorem d_Ma_leave_6 : decode b_Ma_leave 6 = .ok (.aload_n 0, 1) := by decide +kernel
theorem d_Ma_leave_7 : decode b_Ma_leave 7 = .ok (.iload_n 2, 1) := by decide +kernel
theorem d_Ma_leave_8 : decode b_Ma_leave 8 = .ok (.iconst 1, 1) := by decide +kernel
theorem d_Ma_leave_9 : decode b_Ma_leave 9 = .ok (.iadd, 1) := by decide +kernel
theorem d_Ma_leave_10 : decode b_Ma_leave 10 = .ok (.invokevirtual 46, 3) := by decide +kernel
theorem d_Ma_leave_13 : decode b_Ma_leave 13 = .ok (.putfield 25, 3) := by decide +kernel
theorem d_Ma_leave_16 : decode b_Ma_leave 16 = .ok (.aload_n 0, 1) := by decide +kernel
theorem d_Ma_leave_17 : decode b_Ma_leave 17 = .ok (.aload_n 0, 1) := by decide +kernel
theorem d_Ma_leave_18 : decode b_Ma_leave 18 = .ok (.iload_n 2, 1) := by decide +kernel
theorem d_Ma_leave_19 : decode b_Ma_leave 19 = .ok (.iconst 2, 1) := by decide +kernel
theorem d_Ma_leave_20 : decode b_Ma_leave 20 = .ok (.iadd, 1) := by decide +kernel
theorem d_Ma_leave_21 : decode b_Ma_leave 21 = .ok (.invokevirtual 46, 3) := by decide +kernel
theorem d_Ma_leave_24 : decode b_Ma_leave 24 = .ok (.putfield 22, 3) := by decide +kernel
theorem d_Ma_leave_27 : decode b_Ma_leave 27 = .ok (.aload_n 0, 1) := by decide +kernel
theorem d_Ma_leave_28 : decode b_Ma_leave 28 = .ok (.iload_n 2, 1) := by decide +kernel
theorem d_Ma_leave_29 : decode b_Ma_leave 29 = .ok (.iconst 1, 1) := by decide +kernel
theorem d_Ma_leave_30 : decode b_Ma_leave 30 = .ok (.isub, 1) := by decide +kernel
theorem d_Ma_leave_31 : decode b_Ma_leave 31 = .ok (.iload_n 1, 1) := by decide +kernel
theorem d_Ma_leave_32 : decode b_Ma_leave 32 = .ok (.isub, 1) := by decide +kernel
theorem d_Ma_leave_33 : decode b_Ma_leave 33 = .ok (.putfield 28, 3) := by decide +kernel
theorem d_Ma_leave_36 : decode b_Ma_leave 36 = .ok (.aload_n 0, 1) := by decide +kernel
theorem d_Ma_leave_37 : decode b_Ma_leave 37 = .ok (.dup, 1) := by decide +kernel
theorem d_Ma_leave_38 : decode b_Ma_leave 38 = .ok (.getfield 31, 3) := by decide +kernel
theorem d_Ma_leave_41 : decode b_Ma_leave 41 = .ok (.iconst 1, 1) := by decide +kernel
theorem d_Ma_leave_42 : decode b_Ma_leave 42 = .ok (.isub, 1) := by decide +kernel
theorem d_Ma_leave_43 : decode b_Ma_leave 43 = .ok (.putfield 31, 3) := by decide +kernel
theorem d_Ma_leave_46 : decode b_Ma_leave 46 = .ok (.iload_n 2, 1) := by decide +kernel
theorem d_Ma_leave_47 : decode b_Ma_leave 47 = .ok (.ifCond .ne 8, 3) := by decide +kernel
theorem d_Ma_leave_50 : decode b_Ma_leave 50 = .ok (.aload_n 0, 1) := by decide +kernel
theorem d_Ma_leave_51 : decode b_Ma_leave 51 = .ok (.iconst 2, 1) := by decide +kernel
theorem d_Ma_leave_52 : decode b_Ma_leave 52 = .ok (.putfield 18, 3) := by decide +kernel
theorem d_Ma_leave_55 : decode b_Ma_leave 55 = .ok (.return_, 1) := by decide +kernel

set_option maxHeartbeats 4000000 in
set_option maxRecDepth 100000 in
theorem g_Ma_leave (l : Launch) (G : nn_G) (sz : Nat) (h0 x1 x2 : Nat) (f g : Nat → Int32) (v1 v2 v3 v4 v5 : Int32) (oc : Nat) (k : Int32) : Met l y_Ma_leave w_Ma_leave ({ frames := 1, cells := 0, slots := 0, locals := 21 }) (nn_P G [.ref h0, .int k] [(h0, .inr (3, [.ref x1, .ref x2, .int v1, .int v2, .int v3, .int v4, .int v5, .int (nI oc)])), (x1, .inl (G.2 0, 200, .inl (f))), (x2, .inl (G.2 0, 8, .inl (g)))] sz) (va_Qv (fun u : (Nat → Int32) × (Nat → Int32) × Int32 × Int32 × Int32 × Int32 × Int32 × Nat => u.2.2.2.2.2.2.2 = oc) (fun u t => va_P G.1 nn_cls [(h0, .inr (3, [.ref x1, .ref x2, .int u.2.2.1, .int u.2.2.2.1, .int u.2.2.2.2.1, .int u.2.2.2.2.2.1, .int u.2.2.2.2.2.2.1, .int (nI u.2.2.2.2.2.2.2)])), (x1, .inl (G.2 0, 200, .inl (u.1))), (x2, .inl (G.2 0, 8, .inl (u.2.1)))] t.heap ∧ va_D (va_A [(h0, .inr (3, [.ref x1, .ref x2, .int v1, .int v2, .int v3, .int v4, .int v5, .int (nI oc)])), (x1, .inl (G.2 0, 200, .inl (f))), (x2, .inl (G.2 0, 8, .inl (g)))] sz) [(h0, .inr (3, [.ref x1, .ref x2, .int u.2.2.1, .int u.2.2.2.1, .int u.2.2.2.2.1, .int u.2.2.2.2.2.1, .int u.2.2.2.2.2.2.1, .int (nI u.2.2.2.2.2.2.2)])), (x1, .inl (G.2 0, 200, .inl (u.1))), (x2, .inl (G.2 0, 8, .inl (u.2.1)))]) (va_A [(h0, .inr (3, [.ref x1, .ref x2, .int v1, .int v2, .int v3, .int v4, .int v5, .int (nI oc)])), (x1, .inl (G.2 0, 200, .inl (f))), (x2, .inl (G.2 0, 8, .inl (g)))] sz)) 0 0 (va_A [(h0, .inr (3, [.ref x1, .ref x2, .int v1, .int v2, .int v3, .int v4, .int v5, .int (nI oc)])), (x1, .inl (G.2 0, 200, .inl (f))), (x2, .inl (G.2 0, 8, .inl (g)))] sz) := by
  refine Met.ofW (cc := b_Ma_leave) (maxL := 3) (ret := none) (by decide) rfl ?_
  intro p e s m args below meth c s₁ B hml hv
  obtain ⟨rfl, hsz, hP, hK, hD0, hN⟩ := hv
  have hx := B.exec
  have hb := B.bytes
  have hr := B.returns
  have hts := atoms_spec (ws := w_Ma_leave) B.pre
  have hg : ∀ w ∈ nn_gw, w.before _ s = true := fun w h => hts w (List.mem_cons_of_mem _ h)
  have hown : s.vm.findClass R_Ma = some m.cls := findClass_of_methodNamed B.named
  have hlocks := B.notSynchronized
  subst hsz
  have hD := hD0.self (sz := s.heap.size)
  generalize hAe : va_A [(h0, .inr (3, [.ref x1, .ref x2, .int v1, .int v2, .int v3, .int v4, .int v5, .int (nI oc)])), (x1, .inl (G.2 0, 200, .inl (f))), (x2, .inl (G.2 0, 8, .inl (g)))] s.heap.size = A at hD ⊢
  have hA : ∀ q : Nat, s.heap.size ≤ q → A q := fun q h => by rw [← hAe]; exact Or.inr h
  have hS : va_S A s.heap s.heap [] := va_S.rf
  have hP : va_P G.1 nn_cls [(h0, .inr (3, [.ref x1, .ref x2, .int v1, .int v2, .int v3, .int v4, .int v5, .int (nI oc)])), (x1, .inl (G.2 0, 200, .inl (f))), (x2, .inl (G.2 0, 8, .inl (g)))] s.heap := hP
  have hl := lv_entry ([.ref h0, .int k]) (n := 3) (Nat.le_of_ble_eq_true rfl)
  rw [lg_entry_eq]
  generalize (lg_sl ([.ref h0, .int k]) ++ List.replicate (3 - (lg_sl ([.ref h0, .int k])).length) Slot.unset).toArray = ls at hl ⊢
  have hl : lv_has ls 3 [(0, .ref h0), (1, .int k)] := hl
  refine lv_aload_n hx hb d_Ma_leave_0 rfl (lv_at hl 0 rfl) ?_
  refine va_get (D := G.1) (ci := 3) (v := .int v3) (C := R_Ma) (T := T_Ma) (N := 8) hx hb hg in_Ma hown hK hP 0 rfl rfl 4 (by decide) (hg _ mw_250) (fun _ h9 => h9) rfl d_Ma_leave_1 ?_
  refine lv_istore_n (lv' := [(2, .int v3), (0, .ref h0), (1, .int k)]) hx hb d_Ma_leave_4 rfl hl (by decide) rfl (fun ls hl => ?_)
  refine lv_aload_n hx hb d_Ma_leave_5 rfl (lv_at hl 1 rfl) ?_
  refine lv_aload_n hx hb d_Ma_leave_6 rfl (lv_at hl 1 rfl) ?_
  refine lv_iload_n hx hb d_Ma_leave_7 rfl (lv_at hl 0 rfl) ?_
  refine lv_iconst (v := 1) hx hb d_Ma_leave_8 (by decide) ?_
  refine lv_iadd hx hb d_Ma_leave_9 ?_
  have hPc := hP.sub (ws' := [(h0, .inr (3, [.ref x1, .ref x2, .int v1, .int v2, .int v3, .int v4, .int v5, .int (nI oc)])), (x1, .inl (G.2 0, 200, .inl (f))), (x2, .inl (G.2 0, 8, .inl (g)))]) [0, 1, 2] rfl
  have hDc := hD.sub (ws' := [(h0, .inr (3, [.ref x1, .ref x2, .int v1, .int v2, .int v3, .int v4, .int v5, .int (nI oc)])), (x1, .inl (G.2 0, 200, .inl (f))), (x2, .inl (G.2 0, 8, .inl (g)))]) [0, 1, 2] (by decide) rfl
  refine vp_callSi (va_Run.run (va_runV (As := [.int (v3 + 1)]) (rest := [.ref h0]) ⟨hx, hb, hml, hown, hts⟩ (g_Ma_at l G _ h0 x1 x2 f g v1 v2 v3 v4 v5 oc (v3 + 1)) (cwV 1 hts (nn_gV mw_368 mw_365 mw_367 mw_2 mw_93) rfl rfl rfl (by decide +kernel) ⟨Nat.le_of_ble_eq_true rfl, Nat.le_of_ble_eq_true rfl⟩) (nn_preV (va_recv hK hP rfl (q0 := 0) rfl) hPc hDc hK hN) rfl rfl hl.1 rfl (lv_room (Nat.le_of_ble_eq_true rfl)) d_Ma_leave_10 ⟨(Nat.le_of_ble_eq_true rfl), (Nat.le_of_ble_eq_true rfl)⟩)) (fun r1 er1 => ?_)
  refine va_put (D := G.1) (ci := 3) (v := .int r1) (ty := .int) (C := R_Ma) (T := T_Ma) (N := 8) hx hb hg in_Ma t_Ma ok_Ma nm_Ma hown hK hP hD hS 0 rfl rfl 4 (by decide) (hg _ mw_250) (fun _ h9 => h9) rfl (by decide +kernel) rfl rfl (Nat.le_of_ble_eq_true rfl) d_Ma_leave_13 (fun H locs hP hD hS => ?_)
  have hP : va_P G.1 nn_cls [(h0, .inr (3, [.ref x1, .ref x2, .int v1, .int v2, .int r1, .int v4, .int v5, .int (nI oc)])), (x1, .inl (G.2 0, 200, .inl (f))), (x2, .inl (G.2 0, 8, .inl (g)))] H := hP
  have hD : va_D A [(h0, .inr (3, [.ref x1, .ref x2, .int v1, .int v2, .int r1, .int v4, .int v5, .int (nI oc)])), (x1, .inl (G.2 0, 200, .inl (f))), (x2, .inl (G.2 0, 8, .inl (g)))] := hD
  refine lv_aload_n hx hb d_Ma_leave_16 rfl (lv_at hl 1 rfl) ?_
  refine lv_aload_n hx hb d_Ma_leave_17 rfl (lv_at hl 1 rfl) ?_
  refine lv_iload_n hx hb d_Ma_leave_18 rfl (lv_at hl 0 rfl) ?_
  refine lv_iconst (v := 2) hx hb d_Ma_leave_19 (by decide) ?_
  refine lv_iadd hx hb d_Ma_leave_20 ?_
  have hPc := hP.sub (ws' := [(h0, .inr (3, [.ref x1, .ref x2, .int v1, .int v2, .int r1, .int v4, .int v5, .int (nI oc)])), (x1, .inl (G.2 0, 200, .inl (f))), (x2, .inl (G.2 0, 8, .inl (g)))]) [0, 1, 2] rfl
  have hDc := hD.sub (ws' := [(h0, .inr (3, [.ref x1, .ref x2, .int v1, .int v2, .int r1, .int v4, .int v5, .int (nI oc)])), (x1, .inl (G.2 0, 200, .inl (f))), (x2, .inl (G.2 0, 8, .inl (g)))]) [0, 1, 2] (by decide) rfl
  refine vp_callSi (va_Run.run (va_runV (As := [.int (v3 + 2)]) (rest := [.ref h0]) ⟨hx, hb, hml, hown, hts⟩ (g_Ma_at l G _ h0 x1 x2 f g v1 v2 r1 v4 v5 oc (v3 + 2)) (cwV 1 hts (nn_gV mw_368 mw_365 mw_367 mw_2 mw_93) rfl rfl rfl (by decide +kernel) ⟨Nat.le_of_ble_eq_true rfl, Nat.le_of_ble_eq_true rfl⟩) (nn_preV (va_recv hK hP rfl (q0 := 0) rfl) hPc hDc hK hN) rfl rfl hl.1 rfl (lv_room (Nat.le_of_ble_eq_true rfl)) d_Ma_leave_21 ⟨(Nat.le_of_ble_eq_true rfl), (Nat.le_of_ble_eq_true rfl)⟩)) (fun r2 er2 => ?_)
  refine va_put (D := G.1) (ci := 3) (v := .int r2) (ty := .int) (C := R_Ma) (T := T_Ma) (N := 8) hx hb hg in_Ma t_Ma ok_Ma nm_Ma hown hK hP hD hS 0 rfl rfl 3 (by decide) (hg _ mw_249) (fun _ h9 => h9) rfl (by decide +kernel) rfl rfl (Nat.le_of_ble_eq_true rfl) d_Ma_leave_24 (fun H locs hP hD hS => ?_)
  have hP : va_P G.1 nn_cls [(h0, .inr (3, [.ref x1, .ref x2, .int v1, .int r2, .int r1, .int v4, .int v5, .int (nI oc)])), (x1, .inl (G.2 0, 200, .inl (f))), (x2, .inl (G.2 0, 8, .inl (g)))] H := hP
  have hD : va_D A [(h0, .inr (3, [.ref x1, .ref x2, .int v1, .int r2, .int r1, .int v4, .int v5, .int (nI oc)])), (x1, .inl (G.2 0, 200, .inl (f))), (x2, .inl (G.2 0, 8, .inl (g)))] := hD
  refine lv_aload_n hx hb d_Ma_leave_27 rfl (lv_at hl 1 rfl) ?_
  refine lv_iload_n hx hb d_Ma_leave_28 rfl (lv_at hl 0 rfl) ?_
  refine lv_iconst (v := 1) hx hb d_Ma_leave_29 (by decide) ?_
  refine lv_isub hx hb d_Ma_leave_30 ?_
  refine lv_iload_n hx hb d_Ma_leave_31 rfl (lv_at hl 2 rfl) ?_
  refine lv_isub hx hb d_Ma_leave_32 ?_
  refine va_put (D := G.1) (ci := 3) (v := .int ((v3 - 1) - k)) (ty := .int) (C := R_Ma) (T := T_Ma) (N := 8) hx hb hg in_Ma t_Ma ok_Ma nm_Ma hown hK hP hD hS 0 rfl rfl 5 (by decide) (hg _ mw_251) (fun _ h9 => h9) rfl (by decide +kernel) rfl rfl (Nat.le_of_ble_eq_true rfl) d_Ma_leave_33 (fun H locs hP hD hS => ?_)
  have hP : va_P G.1 nn_cls [(h0, .inr (3, [.ref x1, .ref x2, .int v1, .int r2, .int r1, .int ((v3 - 1) - k), .int v5, .int (nI oc)])), (x1, .inl (G.2 0, 200, .inl (f))), (x2, .inl (G.2 0, 8, .inl (g)))] H := hP
  have hD : va_D A [(h0, .inr (3, [.ref x1, .ref x2, .int v1, .int r2, .int r1, .int ((v3 - 1) - k), .int v5, .int (nI oc)])), (x1, .inl (G.2 0, 200, .inl (f))), (x2, .inl (G.2 0, 8, .inl (g)))] := hD
  refine lv_aload_n hx hb d_Ma_leave_36 rfl (lv_at hl 1 rfl) ?_
  refine lv_dup hx hb d_Ma_leave_37 rfl ?_
  refine va_get (D := G.1) (ci := 3) (v := .int v5) (C := R_Ma) (T := T_Ma) (N := 8) hx hb hg in_Ma hown hK hP 0 rfl rfl 6 (by decide) (hg _ mw_252) (fun _ h9 => h9) rfl d_Ma_leave_38 ?_
  refine lv_iconst (v := 1) hx hb d_Ma_leave_41 (by decide) ?_
  refine lv_isub hx hb d_Ma_leave_42 ?_
  refine va_put (D := G.1) (ci := 3) (v := .int (v5 - 1)) (ty := .int) (C := R_Ma) (T := T_Ma) (N := 8) hx hb hg in_Ma t_Ma ok_Ma nm_Ma hown hK hP hD hS 0 rfl rfl 6 (by decide) (hg _ mw_252) (fun _ h9 => h9) rfl (by decide +kernel) rfl rfl (Nat.le_of_ble_eq_true rfl) d_Ma_leave_43 (fun H locs hP hD hS => ?_)
  have hP : va_P G.1 nn_cls [(h0, .inr (3, [.ref x1, .ref x2, .int v1, .int r2, .int r1, .int ((v3 - 1) - k), .int (v5 - 1), .int (nI oc)])), (x1, .inl (G.2 0, 200, .inl (f))), (x2, .inl (G.2 0, 8, .inl (g)))] H := hP
  have hD : va_D A [(h0, .inr (3, [.ref x1, .ref x2, .int v1, .int r2, .int r1, .int ((v3 - 1) - k), .int (v5 - 1), .int (nI oc)])), (x1, .inl (G.2 0, 200, .inl (f))), (x2, .inl (G.2 0, 8, .inl (g)))] := hD
  refine lv_iload_n hx hb d_Ma_leave_46 rfl (lv_at hl 0 rfl) ?_
  refine lv_if_ne (tgt := 55) hx hb d_Ma_leave_47 rfl (fun hc47 => ?_) (fun hc47 => ?_)
  · skip
    refine W.widen (k := 0) (n := 0) (Nat.le_of_ble_eq_true rfl) (Nat.le_of_ble_eq_true rfl) ?_
    have hP9 := hP.sub (ws' := [(h0, .inr (3, [.ref x1, .ref x2, .int v1, .int r2, .int r1, .int ((v3 - 1) - k), .int (v5 - 1), .int (nI oc)])), (x1, .inl (G.2 0, 200, .inl (f))), (x2, .inl (G.2 0, 8, .inl (g)))]) [0, 1, 2] rfl
    have hD9 := hD.sub (ws' := [(h0, .inr (3, [.ref x1, .ref x2, .int v1, .int r2, .int r1, .int ((v3 - 1) - k), .int (v5 - 1), .int (nI oc)])), (x1, .inl (G.2 0, 200, .inl (f))), (x2, .inl (G.2 0, 8, .inl (g)))]) [0, 1, 2] (by decide) rfl
    exact W.vret hx hb hr (fun t ht hW => ⟨⟨(f, g, v1, r2, r1, ((v3 - 1) - k), (v5 - 1), oc), rfl, rfl, ⟨by rw [ht]; exact hP9, hD9⟩⟩, hS.F ht⟩) hS.2.2 d_Ma_leave_55
  · skip
    refine lv_aload_n hx hb d_Ma_leave_50 rfl (lv_at hl 1 rfl) ?_
    refine lv_iconst (v := 2) hx hb d_Ma_leave_51 (by decide) ?_
    refine va_put (D := G.1) (ci := 3) (v := .int 2) (ty := .int) (C := R_Ma) (T := T_Ma) (N := 8) hx hb hg in_Ma t_Ma ok_Ma nm_Ma hown hK hP hD hS 0 rfl rfl 2 (by decide) (hg _ mw_248) (fun _ h9 => h9) rfl (by decide +kernel) rfl rfl (Nat.le_of_ble_eq_true rfl) d_Ma_leave_52 (fun H locs hP hD hS => ?_)
    have hP : va_P G.1 nn_cls [(h0, .inr (3, [.ref x1, .ref x2, .int 2, .int r2, .int r1, .int ((v3 - 1) - k), .int (v5 - 1), .int (nI oc)])), (x1, .inl (G.2 0, 200, .inl (f))), (x2, .inl (G.2 0, 8, .inl (g)))] H := hP
    have hD : va_D A [(h0, .inr (3, [.ref x1, .ref x2, .int 2, .int r2, .int r1, .int ((v3 - 1) - k), .int (v5 - 1), .int (nI oc)])), (x1, .inl (G.2 0, 200, .inl (f))), (x2, .inl (G.2 0, 8, .inl (g)))] := hD
    refine W.widen (k := 0) (n := 0) (Nat.le_of_ble_eq_true rfl) (Nat.le_of_ble_eq_true rfl) ?_
    have hP9 := hP.sub (ws' := [(h0, .inr (3, [.ref x1, .ref x2, .int 2, .int r2, .int r1, .int ((v3 - 1) - k), .int (v5 - 1), .int (nI oc)])), (x1, .inl (G.2 0, 200, .inl (f))), (x2, .inl (G.2 0, 8, .inl (g)))]) [0, 1, 2] rfl
    have hD9 := hD.sub (ws' := [(h0, .inr (3, [.ref x1, .ref x2, .int 2, .int r2, .int r1, .int ((v3 - 1) - k), .int (v5 - 1), .int (nI oc)])), (x1, .inl (G.2 0, 200, .inl (f))), (x2, .inl (G.2 0, 8, .inl (g)))]) [0, 1, 2] (by decide) rfl
    exact W.vret hx hb hr (fun t ht hW => ⟨⟨(f, g, 2, r2, r1, ((v3 - 1) - k), (v5 - 1), oc), rfl, rfl, ⟨by rw [ht]; exact hP9, hD9⟩⟩, hS.F ht⟩) hS.2.2 d_Ma_leave_55

theorem d_Ma_combined_0 : decode b_Ma_combined 0 = .ok (.iload_n 0, 1) := by decide +kernel
theorem d_Ma_combined_1 : decode b_Ma_combined 1 = .ok (.tableswitch 115 2 9 #[47, 51, 55, 59, 71, 82, 93, 104], 47) := by decide +kernel
theorem d_Ma_combined_48 : decode b_Ma_combined 48 = .ok (.iload_n 1, 1) := by decide +kernel
theorem d_Ma_combined_49 : decode b_Ma_combined 49 = .ok (.iload_n 2, 1) := by decide +kernel
theorem d_Ma_combined_50 : decode b_Ma_combined 50 = .ok (.iadd, 1) := by decide +kernel
theorem d_Ma_combined_51 : decode b_Ma_combined 51 = .ok (.ireturn, 1) := by decide +kernel
theorem d_Ma_combined_52 : decode b_Ma_combined 52 = .ok (.iload_n 1, 1) := by decide +kernel
theorem d_Ma_combined_53 : decode b_Ma_combined 53 = .ok (.iload_n 2, 1) := by decide +kernel
theorem d_Ma_combined_54 : decode b_Ma_combined 54 = .ok (.isub, 1) := by decide +kernel
theorem d_Ma_combined_55 : decode b_Ma_combined 55 = .ok (.ireturn, 1) := by decide +kernel
theorem d_Ma_combined_56 : decode b_Ma_combined 56 = .ok (.iload_n 1, 1) := by decide +kernel
theorem d_Ma_combined_57 : decode b_Ma_combined 57 = .ok (.iload_n 2, 1) := by decide +kernel
theorem d_Ma_combined_58 : decode b_Ma_combined 58 = .ok (.imul, 1) := by decide +kernel
theorem d_Ma_combined_59 : decode b_Ma_combined 59 = .ok (.ireturn, 1) := by decide +kernel
theorem d_Ma_combined_60 : decode b_Ma_combined 60 = .ok (.iload_n 2, 1) := by decide +kernel
theorem d_Ma_combined_61 : decode b_Ma_combined 61 = .ok (.ifCond .ne 7, 3) := by decide +kernel
theorem d_Ma_combined_64 : decode b_Ma_combined 64 = .ok (.iconst 0, 1) := by decide +kernel
theorem d_Ma_combined_65 : decode b_Ma_combined 65 = .ok (.goto 6, 3) := by decide +kernel
theorem d_Ma_combined_68 : decode b_Ma_combined 68 = .ok (.iload_n 1, 1) := by decide +kernel
theorem d_Ma_combined_69 : decode b_Ma_combined 69 = .ok (.iload_n 2, 1) := by decide +kernel
theorem d_Ma_combined_70 : decode b_Ma_combined 70 = .ok (.idiv, 1) := by decide +kernel
theorem d_Ma_combined_71 : decode b_Ma_combined 71 = .ok (.ireturn, 1) := by decide +kernel
theorem d_Ma_combined_72 : decode b_Ma_combined 72 = .ok (.iload_n 1, 1) := by decide +kernel
theorem d_Ma_combined_73 : decode b_Ma_combined 73 = .ok (.iload_n 2, 1) := by decide +kernel
theorem d_Ma_combined_74 : decode b_Ma_combined 74 = .ok (.if_icmp .ne 7, 3) := by decide +kernel
theorem d_Ma_combined_77 : decode b_Ma_combined 77 = .ok (.iconst 1, 1) := by decide +kernel
theorem d_Ma_combined_78 : decode b_Ma_combined 78 = .ok (.goto 4, 3) := by decide +kernel
theorem d_Ma_combined_81 : decode b_Ma_combined 81 = .ok (.iconst 0, 1) := by decide +kernel
theorem d_Ma_combined_82 : decode b_Ma_combined 82 = .ok (.ireturn, 1) := by decide +kernel
theorem d_Ma_combined_83 : decode b_Ma_combined 83 = .ok (.iload_n 1, 1) := by decide +kernel
theorem d_Ma_combined_84 : decode b_Ma_combined 84 = .ok (.iload_n 2, 1) := by decide +kernel
theorem d_Ma_combined_85 : decode b_Ma_combined 85 = .ok (.if_icmp .eq 7, 3) := by decide +kernel
theorem d_Ma_combined_88 : decode b_Ma_combined 88 = .ok (.iconst 1, 1) := by decide +kernel
theorem d_Ma_combined_89 : decode b_Ma_combined 89 = .ok (.goto 4, 3) := by decide +kernel
theorem d_Ma_combined_92 : decode b_Ma_combined 92 = .ok (.iconst 0, 1) := by decide +kernel
theorem d_Ma_combined_93 : decode b_Ma_combined 93 = .ok (.ireturn, 1) := by decide +kernel
theorem d_Ma_combined_94 : decode b_Ma_combined 94 = .ok (.iload_n 1, 1) := by decide +kernel
theorem d_Ma_combined_95 : decode b_Ma_combined 95 = .ok (.iload_n 2, 1) := by decide +kernel
theorem d_Ma_combined_96 : decode b_Ma_combined 96 = .ok (.if_icmp .ge 7, 3) := by decide +kernel
theorem d_Ma_combined_99 : decode b_Ma_combined 99 = .ok (.iconst 1, 1) := by decide +kernel
theorem d_Ma_combined_100 : decode b_Ma_combined 100 = .ok (.goto 4, 3) := by decide +kernel
theorem d_Ma_combined_103 : decode b_Ma_combined 103 = .ok (.iconst 0, 1) := by decide +kernel
theorem d_Ma_combined_104 : decode b_Ma_combined 104 = .ok (.ireturn, 1) := by decide +kernel
theorem d_Ma_combined_105 : decode b_Ma_combined 105 = .ok (.iload_n 1, 1) := by decide +kernel
theorem d_Ma_combined_106 : decode b_Ma_combined 106 = .ok (.iload_n 2, 1) := by decide +kernel
theorem d_Ma_combined_107 : decode b_Ma_combined 107 = .ok (.if_icmp .le 7, 3) := by decide +kernel
theorem d_Ma_combined_110 : decode b_Ma_combined 110 = .ok (.iconst 1, 1) := by decide +kernel
theorem d_Ma_combined_111 : decode b_Ma_combined 111 = .ok (.goto 4, 3) := by decide +kernel
theorem d_Ma_combined_114 : decode b_Ma_combined 114 = .ok (.iconst 0, 1) := by decide +kernel
theorem d_Ma_combined_115 : decode b_Ma_combined 115 = .ok (.ireturn, 1) := by decide +kernel
theorem d_Ma_combined_116 : decode b_Ma_combined 116 = .ok (.iconst 0, 1) := by decide +kernel
theorem d_Ma_combined_117 : decode b_Ma_combined 117 = .ok (.ireturn, 1) := by decide +kernel

set_option maxHeartbeats 4000000 in
set_option maxRecDepth 100000 in
theorem g_Ma_combined (l : Launch) (G : nn_G) (sz : Nat) (k i j : Int32) : Met l y_Ma_combined w_Ma_combined ({ frames := 0, cells := 0, slots := 0, locals := 0 }) (nn_P G [.int k, .int i, .int j] [] sz) (vp_Si (fun r => True)) 0 0 (fun _ => False) := by
  refine Met.ofW (cc := b_Ma_combined) (maxL := 3) (ret := some .int) (by decide) rfl ?_
  intro p e s m args below meth c s₁ B hml hv
  obtain ⟨rfl, hsz, hP, hK, hD0, hN⟩ := hv
  have hx := B.exec
  have hb := B.bytes
  have hr := B.returns
  have hts := atoms_spec (ws := w_Ma_combined) B.pre
  have hg : ∀ w ∈ nn_gw, w.before _ s = true := fun w h => hts w (List.mem_cons_of_mem _ h)
  have hown : s.vm.findClass R_Ma = some m.cls := findClass_of_methodNamed B.named
  have hlocks := B.notSynchronized
  subst hsz
  have hD := hD0
  generalize hAe : (fun _ : Nat => True) = A at hD
  have hA : ∀ q : Nat, s.heap.size ≤ q → A q := fun q h => by rw [← hAe]; trivial
  have hS : va_S A s.heap s.heap [] := va_S.rf
  have hP : va_P G.1 nn_cls [] s.heap := hP
  have hl := lv_entry ([.int k, .int i, .int j]) (n := 3) (Nat.le_of_ble_eq_true rfl)
  rw [lg_entry_eq]
  generalize (lg_sl ([.int k, .int i, .int j]) ++ List.replicate (3 - (lg_sl ([.int k, .int i, .int j])).length) Slot.unset).toArray = ls at hl ⊢
  have hl : lv_has ls 3 [(0, .int k), (1, .int i), (2, .int j)] := hl
  refine lv_iload_n hx hb d_Ma_combined_0 rfl (lv_at hl 0 rfl) ?_
  by_cases hk1_2 : k = 2
  · skip
    refine lv_tableIn (off := 47) (tgt := 48) hx hb d_Ma_combined_1 (by rw [hk1_2]; decide) (by rw [hk1_2]; decide) (by rw [hk1_2]; decide) rfl ?_
    refine lv_iload_n hx hb d_Ma_combined_48 rfl (lv_at hl 1 rfl) ?_
    refine lv_iload_n hx hb d_Ma_combined_49 rfl (lv_at hl 2 rfl) ?_
    refine lv_iadd hx hb d_Ma_combined_50 ?_
    exact W.iret (v := i + j) hx hb hr (fun t ht hW => ⟨i + j, rfl, trivial, ht⟩) (fun q h => by cases h) d_Ma_combined_51
  by_cases hk1_3 : k = 3
  · skip
    refine lv_tableIn (off := 51) (tgt := 52) hx hb d_Ma_combined_1 (by rw [hk1_3]; decide) (by rw [hk1_3]; decide) (by rw [hk1_3]; decide) rfl ?_
    refine lv_iload_n hx hb d_Ma_combined_52 rfl (lv_at hl 1 rfl) ?_
    refine lv_iload_n hx hb d_Ma_combined_53 rfl (lv_at hl 2 rfl) ?_
    refine lv_isub hx hb d_Ma_combined_54 ?_
    exact W.iret (v := i - j) hx hb hr (fun t ht hW => ⟨i - j, rfl, trivial, ht⟩) (fun q h => by cases h) d_Ma_combined_55
  by_cases hk1_4 : k = 4
  · skip
    refine lv_tableIn (off := 55) (tgt := 56) hx hb d_Ma_combined_1 (by rw [hk1_4]; decide) (by rw [hk1_4]; decide) (by rw [hk1_4]; decide) rfl ?_
    refine lv_iload_n hx hb d_Ma_combined_56 rfl (lv_at hl 1 rfl) ?_
    refine lv_iload_n hx hb d_Ma_combined_57 rfl (lv_at hl 2 rfl) ?_
    refine lv_imul hx hb d_Ma_combined_58 ?_
    exact W.iret (v := i * j) hx hb hr (fun t ht hW => ⟨i * j, rfl, trivial, ht⟩) (fun q h => by cases h) d_Ma_combined_59
  by_cases hk1_5 : k = 5
  · skip
    refine lv_tableIn (off := 59) (tgt := 60) hx hb d_Ma_combined_1 (by rw [hk1_5]; decide) (by rw [hk1_5]; decide) (by rw [hk1_5]; decide) rfl ?_
    refine lv_iload_n hx hb d_Ma_combined_60 rfl (lv_at hl 2 rfl) ?_
    refine lv_if_ne (tgt := 68) hx hb d_Ma_combined_61 rfl (fun hc61 => ?_) (fun hc61 => ?_)
    · skip
      refine lv_iload_n hx hb d_Ma_combined_68 rfl (lv_at hl 1 rfl) ?_
      refine lv_iload_n hx hb d_Ma_combined_69 rfl (lv_at hl 2 rfl) ?_
      refine lv_idiv hx hb d_Ma_combined_70 hc61 ?_
      exact W.iret (v := i / j) hx hb hr (fun t ht hW => ⟨i / j, rfl, trivial, ht⟩) (fun q h => by cases h) d_Ma_combined_71
    · skip
      refine lv_iconst (v := 0) hx hb d_Ma_combined_64 (by decide) ?_
      refine lv_goto (tgt := 71) hx hb d_Ma_combined_65 rfl ?_
      exact W.iret (v := 0) hx hb hr (fun t ht hW => ⟨0, rfl, trivial, ht⟩) (fun q h => by cases h) d_Ma_combined_71
  by_cases hk1_6 : k = 6
  · skip
    refine lv_tableIn (off := 71) (tgt := 72) hx hb d_Ma_combined_1 (by rw [hk1_6]; decide) (by rw [hk1_6]; decide) (by rw [hk1_6]; decide) rfl ?_
    refine lv_iload_n hx hb d_Ma_combined_72 rfl (lv_at hl 1 rfl) ?_
    refine lv_iload_n hx hb d_Ma_combined_73 rfl (lv_at hl 2 rfl) ?_
    refine lv_icmp_ne (tgt := 81) hx hb d_Ma_combined_74 rfl (fun hc74 => ?_) (fun hc74 => ?_)
    · skip
      refine lv_iconst (v := 0) hx hb d_Ma_combined_81 (by decide) ?_
      exact W.iret (v := 0) hx hb hr (fun t ht hW => ⟨0, rfl, trivial, ht⟩) (fun q h => by cases h) d_Ma_combined_82
    · skip
      refine lv_iconst (v := 1) hx hb d_Ma_combined_77 (by decide) ?_
      refine lv_goto (tgt := 82) hx hb d_Ma_combined_78 rfl ?_
      exact W.iret (v := 1) hx hb hr (fun t ht hW => ⟨1, rfl, trivial, ht⟩) (fun q h => by cases h) d_Ma_combined_82
  by_cases hk1_7 : k = 7
  · skip
    refine lv_tableIn (off := 82) (tgt := 83) hx hb d_Ma_combined_1 (by rw [hk1_7]; decide) (by rw [hk1_7]; decide) (by rw [hk1_7]; decide) rfl ?_
    refine lv_iload_n hx hb d_Ma_combined_83 rfl (lv_at hl 1 rfl) ?_
    refine lv_iload_n hx hb d_Ma_combined_84 rfl (lv_at hl 2 rfl) ?_
    refine lv_icmp_eq (tgt := 92) hx hb d_Ma_combined_85 rfl (fun hc85 => ?_) (fun hc85 => ?_)
    · skip
      refine lv_iconst (v := 0) hx hb d_Ma_combined_92 (by decide) ?_
      exact W.iret (v := 0) hx hb hr (fun t ht hW => ⟨0, rfl, trivial, ht⟩) (fun q h => by cases h) d_Ma_combined_93
    · skip
      refine lv_iconst (v := 1) hx hb d_Ma_combined_88 (by decide) ?_
      refine lv_goto (tgt := 93) hx hb d_Ma_combined_89 rfl ?_
      exact W.iret (v := 1) hx hb hr (fun t ht hW => ⟨1, rfl, trivial, ht⟩) (fun q h => by cases h) d_Ma_combined_93
  by_cases hk1_8 : k = 8
  · skip
    refine lv_tableIn (off := 93) (tgt := 94) hx hb d_Ma_combined_1 (by rw [hk1_8]; decide) (by rw [hk1_8]; decide) (by rw [hk1_8]; decide) rfl ?_
    refine lv_iload_n hx hb d_Ma_combined_94 rfl (lv_at hl 1 rfl) ?_
    refine lv_iload_n hx hb d_Ma_combined_95 rfl (lv_at hl 2 rfl) ?_
    refine lv_icmp_ge (tgt := 103) hx hb d_Ma_combined_96 rfl (fun hc96 => ?_) (fun hc96 => ?_)
    · skip
      refine lv_iconst (v := 0) hx hb d_Ma_combined_103 (by decide) ?_
      exact W.iret (v := 0) hx hb hr (fun t ht hW => ⟨0, rfl, trivial, ht⟩) (fun q h => by cases h) d_Ma_combined_104
    · skip
      refine lv_iconst (v := 1) hx hb d_Ma_combined_99 (by decide) ?_
      refine lv_goto (tgt := 104) hx hb d_Ma_combined_100 rfl ?_
      exact W.iret (v := 1) hx hb hr (fun t ht hW => ⟨1, rfl, trivial, ht⟩) (fun q h => by cases h) d_Ma_combined_104
  by_cases hk1_9 : k = 9
  · skip
    refine lv_tableIn (off := 104) (tgt := 105) hx hb d_Ma_combined_1 (by rw [hk1_9]; decide) (by rw [hk1_9]; decide) (by rw [hk1_9]; decide) rfl ?_
    refine lv_iload_n hx hb d_Ma_combined_105 rfl (lv_at hl 1 rfl) ?_
    refine lv_iload_n hx hb d_Ma_combined_106 rfl (lv_at hl 2 rfl) ?_
    refine lv_icmp_le (tgt := 114) hx hb d_Ma_combined_107 rfl (fun hc107 => ?_) (fun hc107 => ?_)
    · skip
      refine lv_iconst (v := 0) hx hb d_Ma_combined_114 (by decide) ?_
      exact W.iret (v := 0) hx hb hr (fun t ht hW => ⟨0, rfl, trivial, ht⟩) (fun q h => by cases h) d_Ma_combined_115
    · skip
      refine lv_iconst (v := 1) hx hb d_Ma_combined_110 (by decide) ?_
      refine lv_goto (tgt := 115) hx hb d_Ma_combined_111 rfl ?_
      exact W.iret (v := 1) hx hb hr (fun t ht hW => ⟨1, rfl, trivial, ht⟩) (fun q h => by cases h) d_Ma_combined_115
  refine lv_tableOut (tgt := 116) hx hb d_Ma_combined_1 (by have q0 := lv_neT hk1_2 (show (2 : Int32).toInt = 2 by decide); have q1 := lv_neT hk1_3 (show (3 : Int32).toInt = 3 by decide); have q2 := lv_neT hk1_4 (show (4 : Int32).toInt = 4 by decide); have q3 := lv_neT hk1_5 (show (5 : Int32).toInt = 5 by decide); have q4 := lv_neT hk1_6 (show (6 : Int32).toInt = 6 by decide); have q5 := lv_neT hk1_7 (show (7 : Int32).toInt = 7 by decide); have q6 := lv_neT hk1_8 (show (8 : Int32).toInt = 8 by decide); have q7 := lv_neT hk1_9 (show (9 : Int32).toInt = 9 by decide); omega) rfl ?_
  refine lv_iconst (v := 0) hx hb d_Ma_combined_116 (by decide) ?_
  exact W.iret (v := 0) hx hb hr (fun t ht hW => ⟨0, rfl, trivial, ht⟩) (fun q h => by cases h) d_Ma_combined_117

theorem mw_38 : (.selects R_Ma y_Ma_push y_Ma_push : Cond) ∈ nn_gw := nn_at 38 (by decide +kernel) (by decide +kernel)
theorem mw_45 : (.selects R_Ma y_Ma_leave y_Ma_leave : Cond) ∈ nn_gw := nn_at 45 (by decide +kernel) (by decide +kernel)
theorem mw_247 : (.fieldLink R_Ma 15 R_Ma "outputs" "[I" : Cond) ∈ nn_gw := nn_at 247 (by decide +kernel) (by decide +kernel)
theorem mw_253 : (.fieldLink R_Ma 34 R_Ma "outputCount" "I" : Cond) ∈ nn_gw := nn_at 253 (by decide +kernel) (by decide +kernel)
theorem mw_849 : (.methodLink R_Ma 75 y_Ma_push : Cond) ∈ nn_gw := nn_at 849 (by decide +kernel) (by decide +kernel)
theorem mw_851 : (.instanceMethod y_Ma_push : Cond) ∈ nn_gw := nn_at 851 (by decide +kernel) (by decide +kernel)
theorem mw_852 : (.code y_Ma_push b_Ma_push 2 none : Cond) ∈ nn_gw := nn_at 852 (by decide +kernel) (by decide +kernel)
theorem mw_877 : (.methodLink R_Ma 99 y_Ma_leave : Cond) ∈ nn_gw := nn_at 877 (by decide +kernel) (by decide +kernel)
theorem mw_879 : (.instanceMethod y_Ma_leave : Cond) ∈ nn_gw := nn_at 879 (by decide +kernel) (by decide +kernel)
theorem mw_880 : (.code y_Ma_leave b_Ma_leave 3 none : Cond) ∈ nn_gw := nn_at 880 (by decide +kernel) (by decide +kernel)
theorem mw_881 : (.methodLink R_Ma 102 y_Ma_combined : Cond) ∈ nn_gw := nn_at 881 (by decide +kernel) (by decide +kernel)
theorem mw_882 : (.static y_Ma_combined : Cond) ∈ nn_gw := nn_at 882 (by decide +kernel) (by decide +kernel)
theorem mw_883 : (.code y_Ma_combined b_Ma_combined 3 (some .int) : Cond) ∈ nn_gw := nn_at 883 (by decide +kernel) (by decide +kernel)
theorem d_Ma_operate_0 : decode b_Ma_operate 0 = .ok (.iload_n 1, 1) := by decide +kernel
theorem d_Ma_operate_1 : decode b_Ma_operate 1 = .ok (.lookupswitch 84 #[(0, 35), (1, 43), (10, 55)], 35) := by decide +kernel
theorem d_Ma_operate_36 : decode b_Ma_operate 36 = .ok (.aload_n 0, 1) := by decide +kernel
theorem d_Ma_operate_37 : decode b_Ma_operate 37 = .ok (.iload_n 2, 1) := by decide +kernel
theorem d_Ma_operate_38 : decode b_Ma_operate 38 = .ok (.invokevirtual 99, 3) := by decide +kernel
theorem d_Ma_operate_41 : decode b_Ma_operate 41 = .ok (.goto 66, 3) := by decide +kernel
theorem d_Ma_operate_44 : decode b_Ma_operate 44 = .ok (.aload_n 0, 1) := by decide +kernel
theorem d_Ma_operate_45 : decode b_Ma_operate 45 = .ok (.aload_n 0, 1) := by decide +kernel
theorem d_Ma_operate_46 : decode b_Ma_operate 46 = .ok (.invokevirtual 79, 3) := by decide +kernel
theorem d_Ma_operate_49 : decode b_Ma_operate 49 = .ok (.ineg, 1) := by decide +kernel
theorem d_Ma_operate_50 : decode b_Ma_operate 50 = .ok (.invokevirtual 75, 3) := by decide +kernel
theorem d_Ma_operate_53 : decode b_Ma_operate 53 = .ok (.goto 54, 3) := by decide +kernel
theorem d_Ma_operate_56 : decode b_Ma_operate 56 = .ok (.aload_n 0, 1) := by decide +kernel
theorem d_Ma_operate_57 : decode b_Ma_operate 57 = .ok (.getfield 15, 3) := by decide +kernel
theorem d_Ma_operate_60 : decode b_Ma_operate 60 = .ok (.aload_n 0, 1) := by decide +kernel
theorem d_Ma_operate_61 : decode b_Ma_operate 61 = .ok (.getfield 34, 3) := by decide +kernel
theorem d_Ma_operate_64 : decode b_Ma_operate 64 = .ok (.bipush 8, 2) := by decide +kernel
theorem d_Ma_operate_66 : decode b_Ma_operate 66 = .ok (.irem, 1) := by decide +kernel
theorem d_Ma_operate_67 : decode b_Ma_operate 67 = .ok (.aload_n 0, 1) := by decide +kernel
theorem d_Ma_operate_68 : decode b_Ma_operate 68 = .ok (.invokevirtual 79, 3) := by decide +kernel
theorem d_Ma_operate_71 : decode b_Ma_operate 71 = .ok (.iastore, 1) := by decide +kernel
theorem d_Ma_operate_72 : decode b_Ma_operate 72 = .ok (.aload_n 0, 1) := by decide +kernel
theorem d_Ma_operate_73 : decode b_Ma_operate 73 = .ok (.dup, 1) := by decide +kernel
theorem d_Ma_operate_74 : decode b_Ma_operate 74 = .ok (.getfield 34, 3) := by decide +kernel
theorem d_Ma_operate_77 : decode b_Ma_operate 77 = .ok (.iconst 1, 1) := by decide +kernel
theorem d_Ma_operate_78 : decode b_Ma_operate 78 = .ok (.iadd, 1) := by decide +kernel
theorem d_Ma_operate_79 : decode b_Ma_operate 79 = .ok (.putfield 34, 3) := by decide +kernel
theorem d_Ma_operate_82 : decode b_Ma_operate 82 = .ok (.goto 25, 3) := by decide +kernel
theorem d_Ma_operate_85 : decode b_Ma_operate 85 = .ok (.aload_n 0, 1) := by decide +kernel
theorem d_Ma_operate_86 : decode b_Ma_operate 86 = .ok (.invokevirtual 79, 3) := by decide +kernel
theorem d_Ma_operate_89 : decode b_Ma_operate 89 = .ok (.istore_n 3, 1) := by decide +kernel
theorem d_Ma_operate_90 : decode b_Ma_operate 90 = .ok (.aload_n 0, 1) := by decide +kernel
theorem d_Ma_operate_91 : decode b_Ma_operate 91 = .ok (.invokevirtual 79, 3) := by decide +kernel
theorem d_Ma_operate_94 : decode b_Ma_operate 94 = .ok (.istore 4, 2) := by decide +kernel
theorem d_Ma_operate_96 : decode b_Ma_operate 96 = .ok (.aload_n 0, 1) := by decide +kernel
theorem d_Ma_operate_97 : decode b_Ma_operate 97 = .ok (.iload_n 1, 1) := by decide +kernel
theorem d_Ma_operate_98 : decode b_Ma_operate 98 = .ok (.iload 4, 2) := by decide +kernel
theorem d_Ma_operate_100 : decode b_Ma_operate 100 = .ok (.iload_n 3, 1) := by decide +kernel
theorem d_Ma_operate_101 : decode b_Ma_operate 101 = .ok (.invokestatic 102, 3) := by decide +kernel
theorem d_Ma_operate_104 : decode b_Ma_operate 104 = .ok (.invokevirtual 75, 3) := by decide +kernel
theorem d_Ma_operate_107 : decode b_Ma_operate 107 = .ok (.return_, 1) := by decide +kernel

set_option maxHeartbeats 4000000 in
set_option maxRecDepth 100000 in
theorem g_Ma_operate (l : Launch) (G : nn_G) (sz : Nat) (h0 x1 x2 : Nat) (f g : Nat → Int32) (v1 v2 v3 v4 v5 : Int32) (oc : Nat) (k j : Int32) (hoc : oc < 1000000) : Met l y_Ma_operate w_Ma_operate ({ frames := 2, cells := 0, slots := 0, locals := 43 }) (nn_P G [.ref h0, .int k, .int j] [(h0, .inr (3, [.ref x1, .ref x2, .int v1, .int v2, .int v3, .int v4, .int v5, .int (nI oc)])), (x1, .inl (G.2 0, 200, .inl (f))), (x2, .inl (G.2 0, 8, .inl (g)))] sz) (va_Qv (fun u : (Nat → Int32) × (Nat → Int32) × Int32 × Int32 × Int32 × Int32 × Int32 × Nat => u.2.2.2.2.2.2.2 ≤ oc + 1) (fun u t => va_P G.1 nn_cls [(h0, .inr (3, [.ref x1, .ref x2, .int u.2.2.1, .int u.2.2.2.1, .int u.2.2.2.2.1, .int u.2.2.2.2.2.1, .int u.2.2.2.2.2.2.1, .int (nI u.2.2.2.2.2.2.2)])), (x1, .inl (G.2 0, 200, .inl (u.1))), (x2, .inl (G.2 0, 8, .inl (u.2.1)))] t.heap ∧ va_D (va_A [(h0, .inr (3, [.ref x1, .ref x2, .int v1, .int v2, .int v3, .int v4, .int v5, .int (nI oc)])), (x1, .inl (G.2 0, 200, .inl (f))), (x2, .inl (G.2 0, 8, .inl (g)))] sz) [(h0, .inr (3, [.ref x1, .ref x2, .int u.2.2.1, .int u.2.2.2.1, .int u.2.2.2.2.1, .int u.2.2.2.2.2.1, .int u.2.2.2.2.2.2.1, .int (nI u.2.2.2.2.2.2.2)])), (x1, .inl (G.2 0, 200, .inl (u.1))), (x2, .inl (G.2 0, 8, .inl (u.2.1)))]) (va_A [(h0, .inr (3, [.ref x1, .ref x2, .int v1, .int v2, .int v3, .int v4, .int v5, .int (nI oc)])), (x1, .inl (G.2 0, 200, .inl (f))), (x2, .inl (G.2 0, 8, .inl (g)))] sz)) 0 0 (va_A [(h0, .inr (3, [.ref x1, .ref x2, .int v1, .int v2, .int v3, .int v4, .int v5, .int (nI oc)])), (x1, .inl (G.2 0, 200, .inl (f))), (x2, .inl (G.2 0, 8, .inl (g)))] sz) := by
  refine Met.ofW (cc := b_Ma_operate) (maxL := 5) (ret := none) (by decide) rfl ?_
  intro p e s m args below meth c s₁ B hml hv
  obtain ⟨rfl, hsz, hP, hK, hD0, hN⟩ := hv
  have hx := B.exec
  have hb := B.bytes
  have hr := B.returns
  have hts := atoms_spec (ws := w_Ma_operate) B.pre
  have hg : ∀ w ∈ nn_gw, w.before _ s = true := fun w h => hts w (List.mem_cons_of_mem _ h)
  have hown : s.vm.findClass R_Ma = some m.cls := findClass_of_methodNamed B.named
  have hlocks := B.notSynchronized
  subst hsz
  have hD := hD0.self (sz := s.heap.size)
  generalize hAe : va_A [(h0, .inr (3, [.ref x1, .ref x2, .int v1, .int v2, .int v3, .int v4, .int v5, .int (nI oc)])), (x1, .inl (G.2 0, 200, .inl (f))), (x2, .inl (G.2 0, 8, .inl (g)))] s.heap.size = A at hD ⊢
  have hA : ∀ q : Nat, s.heap.size ≤ q → A q := fun q h => by rw [← hAe]; exact Or.inr h
  have hS : va_S A s.heap s.heap [] := va_S.rf
  have hP : va_P G.1 nn_cls [(h0, .inr (3, [.ref x1, .ref x2, .int v1, .int v2, .int v3, .int v4, .int v5, .int (nI oc)])), (x1, .inl (G.2 0, 200, .inl (f))), (x2, .inl (G.2 0, 8, .inl (g)))] s.heap := hP
  have hl := lv_entry ([.ref h0, .int k, .int j]) (n := 5) (Nat.le_of_ble_eq_true rfl)
  rw [lg_entry_eq]
  generalize (lg_sl ([.ref h0, .int k, .int j]) ++ List.replicate (5 - (lg_sl ([.ref h0, .int k, .int j])).length) Slot.unset).toArray = ls at hl ⊢
  have hl : lv_has ls 5 [(0, .ref h0), (1, .int k), (2, .int j)] := hl
  refine lv_iload_n hx hb d_Ma_operate_0 rfl (lv_at hl 1 rfl) ?_
  by_cases hk1_0 : k = 0
  · skip
    refine lv_lookup (off := 35) (tgt := 36) hx hb d_Ma_operate_1 (by decide) (by rw [hk1_0]; decide) rfl ?_
    refine lv_aload_n hx hb d_Ma_operate_36 rfl (lv_at hl 0 rfl) ?_
    refine lv_iload_n hx hb d_Ma_operate_37 rfl (lv_at hl 2 rfl) ?_
    have hPc := hP.sub (ws' := [(h0, .inr (3, [.ref x1, .ref x2, .int v1, .int v2, .int v3, .int v4, .int v5, .int (nI oc)])), (x1, .inl (G.2 0, 200, .inl (f))), (x2, .inl (G.2 0, 8, .inl (g)))]) [0, 1, 2] rfl
    have hDc := hD.sub (ws' := [(h0, .inr (3, [.ref x1, .ref x2, .int v1, .int v2, .int v3, .int v4, .int v5, .int (nI oc)])), (x1, .inl (G.2 0, 200, .inl (f))), (x2, .inl (G.2 0, 8, .inl (g)))]) [0, 1, 2] (by decide) rfl
    have hFc := va_free (wc := [(h0, .inr (3, [.ref x1, .ref x2, .int v1, .int v2, .int v3, .int v4, .int v5, .int (nI oc)])), (x1, .inl (G.2 0, 200, .inl (f))), (x2, .inl (G.2 0, 8, .inl (g)))]) hD hS hA [0, 1, 2] rfl
    refine va_callv (va_runV (As := [.int j]) (rest := []) ⟨hx, hb, hml, hown, hts⟩ (g_Ma_leave l G _ h0 x1 x2 f g v1 v2 v3 v4 v5 oc j ) (cwV 1 hts (nn_gV mw_880 mw_877 mw_879 mw_45 mw_93) rfl rfl rfl (by decide +kernel) ⟨Nat.le_of_ble_eq_true rfl, Nat.le_of_ble_eq_true rfl⟩) (nn_preV (va_recv hK hP rfl (q0 := 0) rfl) hPc hDc hK hN) rfl rfl hl.1 rfl (lv_room (Nat.le_of_ble_eq_true rfl)) d_Ma_operate_38 ⟨(Nat.le_of_ble_eq_true rfl), (Nat.le_of_ble_eq_true rfl)⟩) hS (fun q _ h => hFc q h) hFc (fun u1 t H locs ht hvm hw hB hz1 hk1 hS => ?_)
    obtain ⟨w2, w3, w4, w5, w6, w7, w8, w9⟩ := u1
    dsimp only at hB hw
    have hw9 : oc = w9 := hw.symm
    subst hw9
    obtain ⟨hP1, hD1⟩ := hB
    rw [ht] at hP1
    obtain ⟨hP, hD⟩ := va_join (wr := []) (w1 := [(h0, .inr (3, [.ref x1, .ref x2, .int w4, .int w5, .int w6, .int w7, .int w8, .int (nI oc)])), (x1, .inl (G.2 0, 200, .inl (w2))), (x2, .inl (G.2 0, 8, .inl (w3)))]) hP hD [0, 1, 2] [] rfl rfl (by decide) (by decide) hk1 hFc hP1 hD1
    have hP : va_P G.1 nn_cls [(h0, .inr (3, [.ref x1, .ref x2, .int w4, .int w5, .int w6, .int w7, .int w8, .int (nI oc)])), (x1, .inl (G.2 0, 200, .inl (w2))), (x2, .inl (G.2 0, 8, .inl (w3)))] H := hP
    have hD : va_D A [(h0, .inr (3, [.ref x1, .ref x2, .int w4, .int w5, .int w6, .int w7, .int w8, .int (nI oc)])), (x1, .inl (G.2 0, 200, .inl (w2))), (x2, .inl (G.2 0, 8, .inl (w3)))] := hD
    refine W.widen (k := 0) (n := 0) (Nat.le_of_ble_eq_true rfl) (Nat.le_of_ble_eq_true rfl) ?_
    refine lv_goto (tgt := 107) hx hb d_Ma_operate_41 rfl ?_
    refine W.widen (k := 0) (n := 0) (Nat.le_of_ble_eq_true rfl) (Nat.le_of_ble_eq_true rfl) ?_
    have hP9 := hP.sub (ws' := [(h0, .inr (3, [.ref x1, .ref x2, .int w4, .int w5, .int w6, .int w7, .int w8, .int (nI oc)])), (x1, .inl (G.2 0, 200, .inl (w2))), (x2, .inl (G.2 0, 8, .inl (w3)))]) [0, 1, 2] rfl
    have hD9 := hD.sub (ws' := [(h0, .inr (3, [.ref x1, .ref x2, .int w4, .int w5, .int w6, .int w7, .int w8, .int (nI oc)])), (x1, .inl (G.2 0, 200, .inl (w2))), (x2, .inl (G.2 0, 8, .inl (w3)))]) [0, 1, 2] (by decide) rfl
    exact W.vret hx hb hr (fun t ht hW => ⟨⟨(w2, w3, w4, w5, w6, w7, w8, oc), rfl, (show oc ≤ oc + 1 by omega), ⟨by rw [ht]; exact hP9, hD9⟩⟩, hS.F ht⟩) hS.2.2 d_Ma_operate_107
  by_cases hk1_1 : k = 1
  · skip
    refine lv_lookup (off := 43) (tgt := 44) hx hb d_Ma_operate_1 (by decide) (by rw [hk1_1]; decide) rfl ?_
    refine lv_aload_n hx hb d_Ma_operate_44 rfl (lv_at hl 0 rfl) ?_
    refine lv_aload_n hx hb d_Ma_operate_45 rfl (lv_at hl 0 rfl) ?_
    have hPc := hP.sub (ws' := [(h0, .inr (3, [.ref x1, .ref x2, .int v1, .int v2, .int v3, .int v4, .int v5, .int (nI oc)])), (x1, .inl (G.2 0, 200, .inl (f))), (x2, .inl (G.2 0, 8, .inl (g)))]) [0, 1, 2] rfl
    have hDc := hD.sub (ws' := [(h0, .inr (3, [.ref x1, .ref x2, .int v1, .int v2, .int v3, .int v4, .int v5, .int (nI oc)])), (x1, .inl (G.2 0, 200, .inl (f))), (x2, .inl (G.2 0, 8, .inl (g)))]) [0, 1, 2] (by decide) rfl
    have hFc := va_free (wc := [(h0, .inr (3, [.ref x1, .ref x2, .int v1, .int v2, .int v3, .int v4, .int v5, .int (nI oc)])), (x1, .inl (G.2 0, 200, .inl (f))), (x2, .inl (G.2 0, 8, .inl (g)))]) hD hS hA [0, 1, 2] rfl
    refine va_calli (va_runV (As := []) (rest := [.ref h0]) ⟨hx, hb, hml, hown, hts⟩ (g_Ma_pop l G _ h0 x1 x2 f g v1 v2 v3 v4 v5 oc  ) (cwV 0 hts (nn_gV mw_860 mw_857 mw_859 mw_40 mw_93) rfl rfl rfl (by decide +kernel) ⟨Nat.le_of_ble_eq_true rfl, Nat.le_of_ble_eq_true rfl⟩) (nn_preV (va_recv hK hP rfl (q0 := 0) rfl) hPc hDc hK hN) rfl rfl hl.1 rfl (lv_room (Nat.le_of_ble_eq_true rfl)) d_Ma_operate_46 ⟨(Nat.le_of_ble_eq_true rfl), (Nat.le_of_ble_eq_true rfl)⟩) hS (fun q _ h => hFc q h) hFc (fun r11 u10 t H locs ht hvm hw hB hz1 hk1 hS => ?_)
    obtain ⟨w12, w13, w14, w15, w16, w17, w18, w19⟩ := u10
    dsimp only at hB hw
    have hw9 : oc = w19 := hw.symm
    subst hw9
    obtain ⟨hP1, hD1⟩ := hB
    rw [ht] at hP1
    obtain ⟨hP, hD⟩ := va_join (wr := []) (w1 := [(h0, .inr (3, [.ref x1, .ref x2, .int w14, .int w15, .int w16, .int w17, .int w18, .int (nI oc)])), (x1, .inl (G.2 0, 200, .inl (w12))), (x2, .inl (G.2 0, 8, .inl (w13)))]) hP hD [0, 1, 2] [] rfl rfl (by decide) (by decide) hk1 hFc hP1 hD1
    have hP : va_P G.1 nn_cls [(h0, .inr (3, [.ref x1, .ref x2, .int w14, .int w15, .int w16, .int w17, .int w18, .int (nI oc)])), (x1, .inl (G.2 0, 200, .inl (w12))), (x2, .inl (G.2 0, 8, .inl (w13)))] H := hP
    have hD : va_D A [(h0, .inr (3, [.ref x1, .ref x2, .int w14, .int w15, .int w16, .int w17, .int w18, .int (nI oc)])), (x1, .inl (G.2 0, 200, .inl (w12))), (x2, .inl (G.2 0, 8, .inl (w13)))] := hD
    refine W.widen (k := 0) (n := 0) (Nat.le_of_ble_eq_true rfl) (Nat.le_of_ble_eq_true rfl) ?_
    refine lv_ineg hx hb d_Ma_operate_49 ?_
    have hPc := hP.sub (ws' := [(h0, .inr (3, [.ref x1, .ref x2, .int w14, .int w15, .int w16, .int w17, .int w18, .int (nI oc)])), (x1, .inl (G.2 0, 200, .inl (w12))), (x2, .inl (G.2 0, 8, .inl (w13)))]) [0, 1, 2] rfl
    have hDc := hD.sub (ws' := [(h0, .inr (3, [.ref x1, .ref x2, .int w14, .int w15, .int w16, .int w17, .int w18, .int (nI oc)])), (x1, .inl (G.2 0, 200, .inl (w12))), (x2, .inl (G.2 0, 8, .inl (w13)))]) [0, 1, 2] (by decide) rfl
    have hFc := va_free (wc := [(h0, .inr (3, [.ref x1, .ref x2, .int w14, .int w15, .int w16, .int w17, .int w18, .int (nI oc)])), (x1, .inl (G.2 0, 200, .inl (w12))), (x2, .inl (G.2 0, 8, .inl (w13)))]) hD hS hA [0, 1, 2] rfl
    refine va_callv (va_runV (As := [.int (-r11)]) (rest := []) ⟨hx, hb, hml, hown, hts⟩ (g_Ma_push l G _ h0 x1 x2 w12 w13 w14 w15 w16 w17 w18 oc (-r11) ) (cwV 1 hts (nn_gV mw_852 mw_849 mw_851 mw_38 mw_93) rfl rfl rfl (by decide +kernel) ⟨Nat.le_of_ble_eq_true rfl, Nat.le_of_ble_eq_true rfl⟩) (nn_preV (va_recv hK hP rfl (q0 := 0) rfl) hPc hDc hK hN) rfl rfl hl.1 rfl (lv_room (Nat.le_of_ble_eq_true rfl)) d_Ma_operate_50 ⟨(Nat.le_of_ble_eq_true rfl), (Nat.le_of_ble_eq_true rfl)⟩) hS (fun q _ h => hFc q h) hFc (fun u20 t H locs ht hvm hw hB hz1 hk1 hS => ?_)
    obtain ⟨w21, w22, w23, w24, w25, w26, w27, w28⟩ := u20
    dsimp only at hB hw
    have hw9 : oc = w28 := hw.symm
    subst hw9
    obtain ⟨hP1, hD1⟩ := hB
    rw [ht] at hP1
    obtain ⟨hP, hD⟩ := va_join (wr := []) (w1 := [(h0, .inr (3, [.ref x1, .ref x2, .int w23, .int w24, .int w25, .int w26, .int w27, .int (nI oc)])), (x1, .inl (G.2 0, 200, .inl (w21))), (x2, .inl (G.2 0, 8, .inl (w22)))]) hP hD [0, 1, 2] [] rfl rfl (by decide) (by decide) hk1 hFc hP1 hD1
    have hP : va_P G.1 nn_cls [(h0, .inr (3, [.ref x1, .ref x2, .int w23, .int w24, .int w25, .int w26, .int w27, .int (nI oc)])), (x1, .inl (G.2 0, 200, .inl (w21))), (x2, .inl (G.2 0, 8, .inl (w22)))] H := hP
    have hD : va_D A [(h0, .inr (3, [.ref x1, .ref x2, .int w23, .int w24, .int w25, .int w26, .int w27, .int (nI oc)])), (x1, .inl (G.2 0, 200, .inl (w21))), (x2, .inl (G.2 0, 8, .inl (w22)))] := hD
    refine W.widen (k := 0) (n := 0) (Nat.le_of_ble_eq_true rfl) (Nat.le_of_ble_eq_true rfl) ?_
    refine lv_goto (tgt := 107) hx hb d_Ma_operate_53 rfl ?_
    refine W.widen (k := 0) (n := 0) (Nat.le_of_ble_eq_true rfl) (Nat.le_of_ble_eq_true rfl) ?_
    have hP9 := hP.sub (ws' := [(h0, .inr (3, [.ref x1, .ref x2, .int w23, .int w24, .int w25, .int w26, .int w27, .int (nI oc)])), (x1, .inl (G.2 0, 200, .inl (w21))), (x2, .inl (G.2 0, 8, .inl (w22)))]) [0, 1, 2] rfl
    have hD9 := hD.sub (ws' := [(h0, .inr (3, [.ref x1, .ref x2, .int w23, .int w24, .int w25, .int w26, .int w27, .int (nI oc)])), (x1, .inl (G.2 0, 200, .inl (w21))), (x2, .inl (G.2 0, 8, .inl (w22)))]) [0, 1, 2] (by decide) rfl
    exact W.vret hx hb hr (fun t ht hW => ⟨⟨(w21, w22, w23, w24, w25, w26, w27, oc), rfl, (show oc ≤ oc + 1 by omega), ⟨by rw [ht]; exact hP9, hD9⟩⟩, hS.F ht⟩) hS.2.2 d_Ma_operate_107
  by_cases hk1_10 : k = 10
  · skip
    refine lv_lookup (off := 55) (tgt := 56) hx hb d_Ma_operate_1 (by decide) (by rw [hk1_10]; decide) rfl ?_
    refine lv_aload_n hx hb d_Ma_operate_56 rfl (lv_at hl 0 rfl) ?_
    refine va_get (D := G.1) (ci := 3) (v := .ref x2) (C := R_Ma) (T := T_Ma) (N := 8) hx hb hg in_Ma hown hK hP 0 rfl rfl 1 (by decide) (hg _ mw_247) (fun _ h9 => h9) rfl d_Ma_operate_57 ?_
    refine lv_aload_n hx hb d_Ma_operate_60 rfl (lv_at hl 0 rfl) ?_
    refine va_get (D := G.1) (ci := 3) (v := .int (nI oc)) (C := R_Ma) (T := T_Ma) (N := 8) hx hb hg in_Ma hown hK hP 0 rfl rfl 7 (by decide) (hg _ mw_253) (fun _ h9 => h9) rfl d_Ma_operate_61 ?_
    refine lv_bipush (v := 8) hx hb d_Ma_operate_64 (by decide) ?_
    refine lv_irem hx hb d_Ma_operate_66 (by decide) ?_
    refine nb_top (nI (oc % 8)) (pk_rem (by omega) (by decide) (by decide)) ?_
    refine lv_aload_n hx hb d_Ma_operate_67 rfl (lv_at hl 0 rfl) ?_
    have hPc := hP.sub (ws' := [(h0, .inr (3, [.ref x1, .ref x2, .int v1, .int v2, .int v3, .int v4, .int v5, .int (nI oc)])), (x1, .inl (G.2 0, 200, .inl (f))), (x2, .inl (G.2 0, 8, .inl (g)))]) [0, 1, 2] rfl
    have hDc := hD.sub (ws' := [(h0, .inr (3, [.ref x1, .ref x2, .int v1, .int v2, .int v3, .int v4, .int v5, .int (nI oc)])), (x1, .inl (G.2 0, 200, .inl (f))), (x2, .inl (G.2 0, 8, .inl (g)))]) [0, 1, 2] (by decide) rfl
    have hFc := va_free (wc := [(h0, .inr (3, [.ref x1, .ref x2, .int v1, .int v2, .int v3, .int v4, .int v5, .int (nI oc)])), (x1, .inl (G.2 0, 200, .inl (f))), (x2, .inl (G.2 0, 8, .inl (g)))]) hD hS hA [0, 1, 2] rfl
    refine va_calli (va_runV (As := []) (rest := [.int (nI (oc % 8)), .ref x2]) ⟨hx, hb, hml, hown, hts⟩ (g_Ma_pop l G _ h0 x1 x2 f g v1 v2 v3 v4 v5 oc  ) (cwV 0 hts (nn_gV mw_860 mw_857 mw_859 mw_40 mw_93) rfl rfl rfl (by decide +kernel) ⟨Nat.le_of_ble_eq_true rfl, Nat.le_of_ble_eq_true rfl⟩) (nn_preV (va_recv hK hP rfl (q0 := 0) rfl) hPc hDc hK hN) rfl rfl hl.1 rfl (lv_room (Nat.le_of_ble_eq_true rfl)) d_Ma_operate_68 ⟨(Nat.le_of_ble_eq_true rfl), (Nat.le_of_ble_eq_true rfl)⟩) hS (fun q _ h => hFc q h) hFc (fun r30 u29 t H locs ht hvm hw hB hz1 hk1 hS => ?_)
    obtain ⟨w31, w32, w33, w34, w35, w36, w37, w38⟩ := u29
    dsimp only at hB hw
    have hw9 : oc = w38 := hw.symm
    subst hw9
    obtain ⟨hP1, hD1⟩ := hB
    rw [ht] at hP1
    obtain ⟨hP, hD⟩ := va_join (wr := []) (w1 := [(h0, .inr (3, [.ref x1, .ref x2, .int w33, .int w34, .int w35, .int w36, .int w37, .int (nI oc)])), (x1, .inl (G.2 0, 200, .inl (w31))), (x2, .inl (G.2 0, 8, .inl (w32)))]) hP hD [0, 1, 2] [] rfl rfl (by decide) (by decide) hk1 hFc hP1 hD1
    have hP : va_P G.1 nn_cls [(h0, .inr (3, [.ref x1, .ref x2, .int w33, .int w34, .int w35, .int w36, .int w37, .int (nI oc)])), (x1, .inl (G.2 0, 200, .inl (w31))), (x2, .inl (G.2 0, 8, .inl (w32)))] H := hP
    have hD : va_D A [(h0, .inr (3, [.ref x1, .ref x2, .int w33, .int w34, .int w35, .int w36, .int w37, .int (nI oc)])), (x1, .inl (G.2 0, 200, .inl (w31))), (x2, .inl (G.2 0, 8, .inl (w32)))] := hD
    refine W.widen (k := 0) (n := 0) (Nat.le_of_ble_eq_true rfl) (Nat.le_of_ble_eq_true rfl) ?_
    refine va_iast hx hb hK hP hD hS 2 0 rfl rfl (vp_in_nI (Nat.mod_lt _ (by decide)) (by decide)) d_Ma_operate_71 (fun H locs hP hD hS => ?_)
    have hP : va_P G.1 nn_cls [(h0, .inr (3, [.ref x1, .ref x2, .int w33, .int w34, .int w35, .int w36, .int w37, .int (nI oc)])), (x1, .inl (G.2 0, 200, .inl (w31))), (x2, .inl (G.2 0, 8, .inl (upd (w32) (nI (oc % 8)).toNatClampNeg r30)))] H := hP
    have hD : va_D A [(h0, .inr (3, [.ref x1, .ref x2, .int w33, .int w34, .int w35, .int w36, .int w37, .int (nI oc)])), (x1, .inl (G.2 0, 200, .inl (w31))), (x2, .inl (G.2 0, 8, .inl (upd (w32) (nI (oc % 8)).toNatClampNeg r30)))] := hD
    refine lv_aload_n hx hb d_Ma_operate_72 rfl (lv_at hl 0 rfl) ?_
    refine lv_dup hx hb d_Ma_operate_73 rfl ?_
    refine va_get (D := G.1) (ci := 3) (v := .int (nI oc)) (C := R_Ma) (T := T_Ma) (N := 8) hx hb hg in_Ma hown hK hP 0 rfl rfl 7 (by decide) (hg _ mw_253) (fun _ h9 => h9) rfl d_Ma_operate_74 ?_
    refine lv_iconst (v := 1) hx hb d_Ma_operate_77 (by decide) ?_
    refine lv_iadd hx hb d_Ma_operate_78 ?_
    refine nb_top (nI (oc + 1)) (nI_1 oc) ?_
    refine va_put (D := G.1) (ci := 3) (v := .int (nI (oc + 1))) (ty := .int) (C := R_Ma) (T := T_Ma) (N := 8) hx hb hg in_Ma t_Ma ok_Ma nm_Ma hown hK hP hD hS 0 rfl rfl 7 (by decide) (hg _ mw_253) (fun _ h9 => h9) rfl (by decide +kernel) rfl rfl (Nat.le_of_ble_eq_true rfl) d_Ma_operate_79 (fun H locs hP hD hS => ?_)
    have hP : va_P G.1 nn_cls [(h0, .inr (3, [.ref x1, .ref x2, .int w33, .int w34, .int w35, .int w36, .int w37, .int (nI (oc + 1))])), (x1, .inl (G.2 0, 200, .inl (w31))), (x2, .inl (G.2 0, 8, .inl (upd (w32) (nI (oc % 8)).toNatClampNeg r30)))] H := hP
    have hD : va_D A [(h0, .inr (3, [.ref x1, .ref x2, .int w33, .int w34, .int w35, .int w36, .int w37, .int (nI (oc + 1))])), (x1, .inl (G.2 0, 200, .inl (w31))), (x2, .inl (G.2 0, 8, .inl (upd (w32) (nI (oc % 8)).toNatClampNeg r30)))] := hD
    refine lv_goto (tgt := 107) hx hb d_Ma_operate_82 rfl ?_
    refine W.widen (k := 0) (n := 0) (Nat.le_of_ble_eq_true rfl) (Nat.le_of_ble_eq_true rfl) ?_
    have hP9 := hP.sub (ws' := [(h0, .inr (3, [.ref x1, .ref x2, .int w33, .int w34, .int w35, .int w36, .int w37, .int (nI (oc + 1))])), (x1, .inl (G.2 0, 200, .inl (w31))), (x2, .inl (G.2 0, 8, .inl (upd (w32) (nI (oc % 8)).toNatClampNeg r30)))]) [0, 1, 2] rfl
    have hD9 := hD.sub (ws' := [(h0, .inr (3, [.ref x1, .ref x2, .int w33, .int w34, .int w35, .int w36, .int w37, .int (nI (oc + 1))])), (x1, .inl (G.2 0, 200, .inl (w31))), (x2, .inl (G.2 0, 8, .inl (upd (w32) (nI (oc % 8)).toNatClampNeg r30)))]) [0, 1, 2] (by decide) rfl
    exact W.vret hx hb hr (fun t ht hW => ⟨⟨(w31, (upd (w32) (nI (oc % 8)).toNatClampNeg r30), w33, w34, w35, w36, w37, oc + 1), rfl, (show oc + 1 ≤ oc + 1 by omega), ⟨by rw [ht]; exact hP9, hD9⟩⟩, hS.F ht⟩) hS.2.2 d_Ma_operate_107
  refine lv_lookup (off := 84) (tgt := 85) hx hb d_Ma_operate_1 (by decide) (by (show Op.lookupswitch.offset (_ :: _) _ _ = _); rw [lv_osw hk1_0 (by decide)]; (show Op.lookupswitch.offset (_ :: _) _ _ = _); rw [lv_osw hk1_1 (by decide)]; (show Op.lookupswitch.offset (_ :: _) _ _ = _); rw [lv_osw hk1_10 (by decide)]; rfl) rfl ?_
  refine lv_aload_n hx hb d_Ma_operate_85 rfl (lv_at hl 0 rfl) ?_
  have hPc := hP.sub (ws' := [(h0, .inr (3, [.ref x1, .ref x2, .int v1, .int v2, .int v3, .int v4, .int v5, .int (nI oc)])), (x1, .inl (G.2 0, 200, .inl (f))), (x2, .inl (G.2 0, 8, .inl (g)))]) [0, 1, 2] rfl
  have hDc := hD.sub (ws' := [(h0, .inr (3, [.ref x1, .ref x2, .int v1, .int v2, .int v3, .int v4, .int v5, .int (nI oc)])), (x1, .inl (G.2 0, 200, .inl (f))), (x2, .inl (G.2 0, 8, .inl (g)))]) [0, 1, 2] (by decide) rfl
  have hFc := va_free (wc := [(h0, .inr (3, [.ref x1, .ref x2, .int v1, .int v2, .int v3, .int v4, .int v5, .int (nI oc)])), (x1, .inl (G.2 0, 200, .inl (f))), (x2, .inl (G.2 0, 8, .inl (g)))]) hD hS hA [0, 1, 2] rfl
  refine va_calli (va_runV (As := []) (rest := []) ⟨hx, hb, hml, hown, hts⟩ (g_Ma_pop l G _ h0 x1 x2 f g v1 v2 v3 v4 v5 oc  ) (cwV 0 hts (nn_gV mw_860 mw_857 mw_859 mw_40 mw_93) rfl rfl rfl (by decide +kernel) ⟨Nat.le_of_ble_eq_true rfl, Nat.le_of_ble_eq_true rfl⟩) (nn_preV (va_recv hK hP rfl (q0 := 0) rfl) hPc hDc hK hN) rfl rfl hl.1 rfl (lv_room (Nat.le_of_ble_eq_true rfl)) d_Ma_operate_86 ⟨(Nat.le_of_ble_eq_true rfl), (Nat.le_of_ble_eq_true rfl)⟩) hS (fun q _ h => hFc q h) hFc (fun r40 u39 t H locs ht hvm hw hB hz1 hk1 hS => ?_)
  obtain ⟨w41, w42, w43, w44, w45, w46, w47, w48⟩ := u39
  dsimp only at hB hw
  have hw9 : oc = w48 := hw.symm
  subst hw9
  obtain ⟨hP1, hD1⟩ := hB
  rw [ht] at hP1
  obtain ⟨hP, hD⟩ := va_join (wr := []) (w1 := [(h0, .inr (3, [.ref x1, .ref x2, .int w43, .int w44, .int w45, .int w46, .int w47, .int (nI oc)])), (x1, .inl (G.2 0, 200, .inl (w41))), (x2, .inl (G.2 0, 8, .inl (w42)))]) hP hD [0, 1, 2] [] rfl rfl (by decide) (by decide) hk1 hFc hP1 hD1
  have hP : va_P G.1 nn_cls [(h0, .inr (3, [.ref x1, .ref x2, .int w43, .int w44, .int w45, .int w46, .int w47, .int (nI oc)])), (x1, .inl (G.2 0, 200, .inl (w41))), (x2, .inl (G.2 0, 8, .inl (w42)))] H := hP
  have hD : va_D A [(h0, .inr (3, [.ref x1, .ref x2, .int w43, .int w44, .int w45, .int w46, .int w47, .int (nI oc)])), (x1, .inl (G.2 0, 200, .inl (w41))), (x2, .inl (G.2 0, 8, .inl (w42)))] := hD
  refine W.widen (k := 0) (n := 0) (Nat.le_of_ble_eq_true rfl) (Nat.le_of_ble_eq_true rfl) ?_
  refine lv_istore_n (lv' := [(3, .int r40), (0, .ref h0), (1, .int k), (2, .int j)]) hx hb d_Ma_operate_89 rfl hl (by decide) rfl (fun ls hl => ?_)
  refine lv_aload_n hx hb d_Ma_operate_90 rfl (lv_at hl 1 rfl) ?_
  have hPc := hP.sub (ws' := [(h0, .inr (3, [.ref x1, .ref x2, .int w43, .int w44, .int w45, .int w46, .int w47, .int (nI oc)])), (x1, .inl (G.2 0, 200, .inl (w41))), (x2, .inl (G.2 0, 8, .inl (w42)))]) [0, 1, 2] rfl
  have hDc := hD.sub (ws' := [(h0, .inr (3, [.ref x1, .ref x2, .int w43, .int w44, .int w45, .int w46, .int w47, .int (nI oc)])), (x1, .inl (G.2 0, 200, .inl (w41))), (x2, .inl (G.2 0, 8, .inl (w42)))]) [0, 1, 2] (by decide) rfl
  have hFc := va_free (wc := [(h0, .inr (3, [.ref x1, .ref x2, .int w43, .int w44, .int w45, .int w46, .int w47, .int (nI oc)])), (x1, .inl (G.2 0, 200, .inl (w41))), (x2, .inl (G.2 0, 8, .inl (w42)))]) hD hS hA [0, 1, 2] rfl
  refine va_calli (va_runV (As := []) (rest := []) ⟨hx, hb, hml, hown, hts⟩ (g_Ma_pop l G _ h0 x1 x2 w41 w42 w43 w44 w45 w46 w47 oc  ) (cwV 0 hts (nn_gV mw_860 mw_857 mw_859 mw_40 mw_93) rfl rfl rfl (by decide +kernel) ⟨Nat.le_of_ble_eq_true rfl, Nat.le_of_ble_eq_true rfl⟩) (nn_preV (va_recv hK hP rfl (q0 := 0) rfl) hPc hDc hK hN) rfl rfl hl.1 rfl (lv_room (Nat.le_of_ble_eq_true rfl)) d_Ma_operate_91 ⟨(Nat.le_of_ble_eq_true rfl), (Nat.le_of_ble_eq_true rfl)⟩) hS (fun q _ h => hFc q h) hFc (fun r50 u49 t H locs ht hvm hw hB hz1 hk1 hS => ?_)
  obtain ⟨w51, w52, w53, w54, w55, w56, w57, w58⟩ := u49
  dsimp only at hB hw
  have hw9 : oc = w58 := hw.symm
  subst hw9
  obtain ⟨hP1, hD1⟩ := hB
  rw [ht] at hP1
  obtain ⟨hP, hD⟩ := va_join (wr := []) (w1 := [(h0, .inr (3, [.ref x1, .ref x2, .int w53, .int w54, .int w55, .int w56, .int w57, .int (nI oc)])), (x1, .inl (G.2 0, 200, .inl (w51))), (x2, .inl (G.2 0, 8, .inl (w52)))]) hP hD [0, 1, 2] [] rfl rfl (by decide) (by decide) hk1 hFc hP1 hD1
  have hP : va_P G.1 nn_cls [(h0, .inr (3, [.ref x1, .ref x2, .int w53, .int w54, .int w55, .int w56, .int w57, .int (nI oc)])), (x1, .inl (G.2 0, 200, .inl (w51))), (x2, .inl (G.2 0, 8, .inl (w52)))] H := hP
  have hD : va_D A [(h0, .inr (3, [.ref x1, .ref x2, .int w53, .int w54, .int w55, .int w56, .int w57, .int (nI oc)])), (x1, .inl (G.2 0, 200, .inl (w51))), (x2, .inl (G.2 0, 8, .inl (w52)))] := hD
  refine W.widen (k := 0) (n := 0) (Nat.le_of_ble_eq_true rfl) (Nat.le_of_ble_eq_true rfl) ?_
  refine lv_istore (lv' := [(4, .int r50), (3, .int r40), (0, .ref h0), (1, .int k), (2, .int j)]) hx hb d_Ma_operate_94 hl (by decide) rfl (fun ls hl => ?_)
  refine lv_aload_n hx hb d_Ma_operate_96 rfl (lv_at hl 2 rfl) ?_
  refine lv_iload_n hx hb d_Ma_operate_97 rfl (lv_at hl 3 rfl) ?_
  refine lv_iload hx hb d_Ma_operate_98 (lv_at hl 0 rfl) ?_
  refine lv_iload_n hx hb d_Ma_operate_100 rfl (lv_at hl 1 rfl) ?_
  have hPc := hP.sub (ws' := []) [] rfl
  have hDc := hD.sub (ws' := []) [] (by decide) rfl
  refine vp_callSi (va_Run.run (va_runS (As := [.int k, .int r50, .int r40]) (rest := [.ref h0]) ⟨hx, hb, hml, hown, hts⟩ (g_Ma_combined l G _ k r50 r40) (va_cwS 3 hts (nn_gS mw_883 mw_881 mw_882 mw_93) rfl rfl rfl (by decide +kernel) ⟨Nat.le_of_ble_eq_true rfl, Nat.le_of_ble_eq_true rfl⟩) (nn_preS hPc hDc hK hN) rfl rfl hl.1 rfl (lv_room (Nat.le_of_ble_eq_true rfl)) d_Ma_operate_101 ⟨(Nat.le_of_ble_eq_true rfl), (Nat.le_of_ble_eq_true rfl)⟩)) (fun r59 er59 => ?_)
  have hPc := hP.sub (ws' := [(h0, .inr (3, [.ref x1, .ref x2, .int w53, .int w54, .int w55, .int w56, .int w57, .int (nI oc)])), (x1, .inl (G.2 0, 200, .inl (w51))), (x2, .inl (G.2 0, 8, .inl (w52)))]) [0, 1, 2] rfl
  have hDc := hD.sub (ws' := [(h0, .inr (3, [.ref x1, .ref x2, .int w53, .int w54, .int w55, .int w56, .int w57, .int (nI oc)])), (x1, .inl (G.2 0, 200, .inl (w51))), (x2, .inl (G.2 0, 8, .inl (w52)))]) [0, 1, 2] (by decide) rfl
  have hFc := va_free (wc := [(h0, .inr (3, [.ref x1, .ref x2, .int w53, .int w54, .int w55, .int w56, .int w57, .int (nI oc)])), (x1, .inl (G.2 0, 200, .inl (w51))), (x2, .inl (G.2 0, 8, .inl (w52)))]) hD hS hA [0, 1, 2] rfl
  refine va_callv (va_runV (As := [.int r59]) (rest := []) ⟨hx, hb, hml, hown, hts⟩ (g_Ma_push l G _ h0 x1 x2 w51 w52 w53 w54 w55 w56 w57 oc r59 ) (cwV 1 hts (nn_gV mw_852 mw_849 mw_851 mw_38 mw_93) rfl rfl rfl (by decide +kernel) ⟨Nat.le_of_ble_eq_true rfl, Nat.le_of_ble_eq_true rfl⟩) (nn_preV (va_recv hK hP rfl (q0 := 0) rfl) hPc hDc hK hN) rfl rfl hl.1 rfl (lv_room (Nat.le_of_ble_eq_true rfl)) d_Ma_operate_104 ⟨(Nat.le_of_ble_eq_true rfl), (Nat.le_of_ble_eq_true rfl)⟩) hS (fun q _ h => hFc q h) hFc (fun u60 t H locs ht hvm hw hB hz1 hk1 hS => ?_)
  obtain ⟨w61, w62, w63, w64, w65, w66, w67, w68⟩ := u60
  dsimp only at hB hw
  have hw9 : oc = w68 := hw.symm
  subst hw9
  obtain ⟨hP1, hD1⟩ := hB
  rw [ht] at hP1
  obtain ⟨hP, hD⟩ := va_join (wr := []) (w1 := [(h0, .inr (3, [.ref x1, .ref x2, .int w63, .int w64, .int w65, .int w66, .int w67, .int (nI oc)])), (x1, .inl (G.2 0, 200, .inl (w61))), (x2, .inl (G.2 0, 8, .inl (w62)))]) hP hD [0, 1, 2] [] rfl rfl (by decide) (by decide) hk1 hFc hP1 hD1
  have hP : va_P G.1 nn_cls [(h0, .inr (3, [.ref x1, .ref x2, .int w63, .int w64, .int w65, .int w66, .int w67, .int (nI oc)])), (x1, .inl (G.2 0, 200, .inl (w61))), (x2, .inl (G.2 0, 8, .inl (w62)))] H := hP
  have hD : va_D A [(h0, .inr (3, [.ref x1, .ref x2, .int w63, .int w64, .int w65, .int w66, .int w67, .int (nI oc)])), (x1, .inl (G.2 0, 200, .inl (w61))), (x2, .inl (G.2 0, 8, .inl (w62)))] := hD
  refine W.widen (k := 0) (n := 0) (Nat.le_of_ble_eq_true rfl) (Nat.le_of_ble_eq_true rfl) ?_
  refine W.widen (k := 0) (n := 0) (Nat.le_of_ble_eq_true rfl) (Nat.le_of_ble_eq_true rfl) ?_
  have hP9 := hP.sub (ws' := [(h0, .inr (3, [.ref x1, .ref x2, .int w63, .int w64, .int w65, .int w66, .int w67, .int (nI oc)])), (x1, .inl (G.2 0, 200, .inl (w61))), (x2, .inl (G.2 0, 8, .inl (w62)))]) [0, 1, 2] rfl
  have hD9 := hD.sub (ws' := [(h0, .inr (3, [.ref x1, .ref x2, .int w63, .int w64, .int w65, .int w66, .int w67, .int (nI oc)])), (x1, .inl (G.2 0, 200, .inl (w61))), (x2, .inl (G.2 0, 8, .inl (w62)))]) [0, 1, 2] (by decide) rfl
  exact W.vret hx hb hr (fun t ht hW => ⟨⟨(w61, w62, w63, w64, w65, w66, w67, oc), rfl, (show oc ≤ oc + 1 by omega), ⟨by rw [ht]; exact hP9, hD9⟩⟩, hS.F ht⟩) hS.2.2 d_Ma_operate_107

theorem d_Ma_roomFor_0 : decode b_Ma_roomFor 0 = .ok (.iload_n 1, 1) := by decide +kernel
theorem d_Ma_roomFor_1 : decode b_Ma_roomFor 1 = .ok (.sipush 199, 3) := by decide +kernel
theorem d_Ma_roomFor_4 : decode b_Ma_roomFor 4 = .ok (.aload_n 0, 1) := by decide +kernel
theorem d_Ma_roomFor_5 : decode b_Ma_roomFor 5 = .ok (.getfield 28, 3) := by decide +kernel
theorem d_Ma_roomFor_8 : decode b_Ma_roomFor 8 = .ok (.isub, 1) := by decide +kernel
theorem d_Ma_roomFor_9 : decode b_Ma_roomFor 9 = .ok (.if_icmp .gt 7, 3) := by decide +kernel
theorem d_Ma_roomFor_12 : decode b_Ma_roomFor 12 = .ok (.iconst 1, 1) := by decide +kernel
theorem d_Ma_roomFor_13 : decode b_Ma_roomFor 13 = .ok (.goto 4, 3) := by decide +kernel
theorem d_Ma_roomFor_16 : decode b_Ma_roomFor 16 = .ok (.iconst 3, 1) := by decide +kernel
theorem d_Ma_roomFor_17 : decode b_Ma_roomFor 17 = .ok (.ireturn, 1) := by decide +kernel

set_option maxHeartbeats 4000000 in
set_option maxRecDepth 100000 in
theorem g_Ma_roomFor (l : Launch) (G : nn_G) (sz : Nat) (h0 x1 x2 : Nat) (f g : Nat → Int32) (v1 v2 v3 v4 v5 : Int32) (oc : Nat) (k : Int32) : Met l y_Ma_roomFor w_Ma_roomFor ({ frames := 0, cells := 0, slots := 0, locals := 0 }) (nn_P G [.ref h0, .int k] [(h0, .inr (3, [.ref x1, .ref x2, .int v1, .int v2, .int v3, .int v4, .int v5, .int (nI oc)])), (x1, .inl (G.2 0, 200, .inl (f))), (x2, .inl (G.2 0, 8, .inl (g)))] sz) (vp_Si (fun r => True)) 0 0 (fun _ => False) := by
  refine Met.ofW (cc := b_Ma_roomFor) (maxL := 2) (ret := some .int) (by decide) rfl ?_
  intro p e s m args below meth c s₁ B hml hv
  obtain ⟨rfl, hsz, hP, hK, hD0, hN⟩ := hv
  have hx := B.exec
  have hb := B.bytes
  have hr := B.returns
  have hts := atoms_spec (ws := w_Ma_roomFor) B.pre
  have hg : ∀ w ∈ nn_gw, w.before _ s = true := fun w h => hts w (List.mem_cons_of_mem _ h)
  have hown : s.vm.findClass R_Ma = some m.cls := findClass_of_methodNamed B.named
  have hlocks := B.notSynchronized
  subst hsz
  have hD := hD0
  generalize hAe : (fun _ : Nat => True) = A at hD
  have hA : ∀ q : Nat, s.heap.size ≤ q → A q := fun q h => by rw [← hAe]; trivial
  have hS : va_S A s.heap s.heap [] := va_S.rf
  have hP : va_P G.1 nn_cls [(h0, .inr (3, [.ref x1, .ref x2, .int v1, .int v2, .int v3, .int v4, .int v5, .int (nI oc)])), (x1, .inl (G.2 0, 200, .inl (f))), (x2, .inl (G.2 0, 8, .inl (g)))] s.heap := hP
  have hl := lv_entry ([.ref h0, .int k]) (n := 2) (Nat.le_of_ble_eq_true rfl)
  rw [lg_entry_eq]
  generalize (lg_sl ([.ref h0, .int k]) ++ List.replicate (2 - (lg_sl ([.ref h0, .int k])).length) Slot.unset).toArray = ls at hl ⊢
  have hl : lv_has ls 2 [(0, .ref h0), (1, .int k)] := hl
  refine lv_iload_n hx hb d_Ma_roomFor_0 rfl (lv_at hl 1 rfl) ?_
  refine lv_sipush (v := 199) hx hb d_Ma_roomFor_1 (by decide) ?_
  refine lv_aload_n hx hb d_Ma_roomFor_4 rfl (lv_at hl 0 rfl) ?_
  refine va_get (D := G.1) (ci := 3) (v := .int v4) (C := R_Ma) (T := T_Ma) (N := 8) hx hb hg in_Ma hown hK hP 0 rfl rfl 5 (by decide) (hg _ mw_251) (fun _ h9 => h9) rfl d_Ma_roomFor_5 ?_
  refine lv_isub hx hb d_Ma_roomFor_8 ?_
  refine lv_icmp_gt (tgt := 16) hx hb d_Ma_roomFor_9 rfl (fun hc9 => ?_) (fun hc9 => ?_)
  · skip
    refine lv_iconst (v := 3) hx hb d_Ma_roomFor_16 (by decide) ?_
    exact W.iret (v := 3) hx hb hr (fun t ht hW => ⟨3, rfl, trivial, ht⟩) (fun q h => by cases h) d_Ma_roomFor_17
  · skip
    refine lv_iconst (v := 1) hx hb d_Ma_roomFor_12 (by decide) ?_
    refine lv_goto (tgt := 17) hx hb d_Ma_roomFor_13 rfl ?_
    exact W.iret (v := 1) hx hb hr (fun t ht hW => ⟨1, rfl, trivial, ht⟩) (fun q h => by cases h) d_Ma_roomFor_17

theorem mw_36 : (.selects R_Ma y_Ma_roomFor y_Ma_roomFor : Cond) ∈ nn_gw := nn_at 36 (by decide +kernel) (by decide +kernel)
theorem mw_841 : (.methodLink R_Ma 72 y_Ma_roomFor : Cond) ∈ nn_gw := nn_at 841 (by decide +kernel) (by decide +kernel)
theorem mw_843 : (.instanceMethod y_Ma_roomFor : Cond) ∈ nn_gw := nn_at 843 (by decide +kernel) (by decide +kernel)
theorem mw_844 : (.code y_Ma_roomFor b_Ma_roomFor 2 (some .int) : Cond) ∈ nn_gw := nn_at 844 (by decide +kernel) (by decide +kernel)
theorem d_Ma_refusal_0 : decode b_Ma_refusal 0 = .ok (.iload_n 1, 1) := by decide +kernel
theorem d_Ma_refusal_1 : decode b_Ma_refusal 1 = .ok (.tableswitch 132 0 11 #[63, 63, 132, 132, 132, 69, 75, 132, 132, 110, 132, 81], 63) := by decide +kernel
theorem d_Ma_refusal_64 : decode b_Ma_refusal 64 = .ok (.aload_n 0, 1) := by decide +kernel
theorem d_Ma_refusal_65 : decode b_Ma_refusal 65 = .ok (.iconst 1, 1) := by decide +kernel
theorem d_Ma_refusal_66 : decode b_Ma_refusal 66 = .ok (.invokevirtual 72, 3) := by decide +kernel
theorem d_Ma_refusal_69 : decode b_Ma_refusal 69 = .ok (.ireturn, 1) := by decide +kernel
theorem d_Ma_refusal_70 : decode b_Ma_refusal 70 = .ok (.aload_n 0, 1) := by decide +kernel
theorem d_Ma_refusal_71 : decode b_Ma_refusal 71 = .ok (.iconst 3, 1) := by decide +kernel
theorem d_Ma_refusal_72 : decode b_Ma_refusal 72 = .ok (.invokevirtual 72, 3) := by decide +kernel
theorem d_Ma_refusal_75 : decode b_Ma_refusal 75 = .ok (.ireturn, 1) := by decide +kernel
theorem d_Ma_refusal_76 : decode b_Ma_refusal 76 = .ok (.aload_n 0, 1) := by decide +kernel
theorem d_Ma_refusal_77 : decode b_Ma_refusal 77 = .ok (.iload_n 2, 1) := by decide +kernel
theorem d_Ma_refusal_78 : decode b_Ma_refusal 78 = .ok (.invokevirtual 72, 3) := by decide +kernel
theorem d_Ma_refusal_81 : decode b_Ma_refusal 81 = .ok (.ireturn, 1) := by decide +kernel
theorem d_Ma_refusal_82 : decode b_Ma_refusal 82 = .ok (.aload_n 0, 1) := by decide +kernel
theorem d_Ma_refusal_83 : decode b_Ma_refusal 83 = .ok (.aload_n 0, 1) := by decide +kernel
theorem d_Ma_refusal_84 : decode b_Ma_refusal 84 = .ok (.getfield 28, 3) := by decide +kernel
theorem d_Ma_refusal_87 : decode b_Ma_refusal 87 = .ok (.invokevirtual 46, 3) := by decide +kernel
theorem d_Ma_refusal_90 : decode b_Ma_refusal 90 = .ok (.ifCond .lt 19, 3) := by decide +kernel
theorem d_Ma_refusal_93 : decode b_Ma_refusal 93 = .ok (.aload_n 0, 1) := by decide +kernel
theorem d_Ma_refusal_94 : decode b_Ma_refusal 94 = .ok (.aload_n 0, 1) := by decide +kernel
theorem d_Ma_refusal_95 : decode b_Ma_refusal 95 = .ok (.getfield 28, 3) := by decide +kernel
theorem d_Ma_refusal_98 : decode b_Ma_refusal 98 = .ok (.invokevirtual 46, 3) := by decide +kernel
theorem d_Ma_refusal_101 : decode b_Ma_refusal 101 = .ok (.iload_n 2, 1) := by decide +kernel
theorem d_Ma_refusal_102 : decode b_Ma_refusal 102 = .ok (.if_icmp .ge 7, 3) := by decide +kernel
theorem d_Ma_refusal_105 : decode b_Ma_refusal 105 = .ok (.iconst 1, 1) := by decide +kernel
theorem d_Ma_refusal_106 : decode b_Ma_refusal 106 = .ok (.goto 4, 3) := by decide +kernel
theorem d_Ma_refusal_109 : decode b_Ma_refusal 109 = .ok (.iconst 4, 1) := by decide +kernel
theorem d_Ma_refusal_110 : decode b_Ma_refusal 110 = .ok (.ireturn, 1) := by decide +kernel
theorem d_Ma_refusal_111 : decode b_Ma_refusal 111 = .ok (.iload_n 2, 1) := by decide +kernel
theorem d_Ma_refusal_112 : decode b_Ma_refusal 112 = .ok (.iconst 5, 1) := by decide +kernel
theorem d_Ma_refusal_113 : decode b_Ma_refusal 113 = .ok (.if_icmp .ne 18, 3) := by decide +kernel
theorem d_Ma_refusal_116 : decode b_Ma_refusal 116 = .ok (.aload_n 0, 1) := by decide +kernel
theorem d_Ma_refusal_117 : decode b_Ma_refusal 117 = .ok (.aload_n 0, 1) := by decide +kernel
theorem d_Ma_refusal_118 : decode b_Ma_refusal 118 = .ok (.getfield 28, 3) := by decide +kernel
theorem d_Ma_refusal_121 : decode b_Ma_refusal 121 = .ok (.invokevirtual 46, 3) := by decide +kernel
theorem d_Ma_refusal_124 : decode b_Ma_refusal 124 = .ok (.ifCond .ne 7, 3) := by decide +kernel
theorem d_Ma_refusal_127 : decode b_Ma_refusal 127 = .ok (.iconst 5, 1) := by decide +kernel
theorem d_Ma_refusal_128 : decode b_Ma_refusal 128 = .ok (.goto 4, 3) := by decide +kernel
theorem d_Ma_refusal_131 : decode b_Ma_refusal 131 = .ok (.iconst 1, 1) := by decide +kernel
theorem d_Ma_refusal_132 : decode b_Ma_refusal 132 = .ok (.ireturn, 1) := by decide +kernel
theorem d_Ma_refusal_133 : decode b_Ma_refusal 133 = .ok (.iconst 1, 1) := by decide +kernel
theorem d_Ma_refusal_134 : decode b_Ma_refusal 134 = .ok (.ireturn, 1) := by decide +kernel

set_option maxHeartbeats 4000000 in
set_option maxRecDepth 100000 in
theorem g_Ma_refusal (l : Launch) (G : nn_G) (sz : Nat) (h0 x1 x2 : Nat) (f g : Nat → Int32) (v1 v2 v3 v4 v5 : Int32) (oc : Nat) (k j : Int32) : Met l y_Ma_refusal w_Ma_refusal ({ frames := 1, cells := 0, slots := 0, locals := 21 }) (nn_P G [.ref h0, .int k, .int j] [(h0, .inr (3, [.ref x1, .ref x2, .int v1, .int v2, .int v3, .int v4, .int v5, .int (nI oc)])), (x1, .inl (G.2 0, 200, .inl (f))), (x2, .inl (G.2 0, 8, .inl (g)))] sz) (vp_Si (fun r => True)) 0 0 (fun _ => False) := by
  refine Met.ofW (cc := b_Ma_refusal) (maxL := 3) (ret := some .int) (by decide) rfl ?_
  intro p e s m args below meth c s₁ B hml hv
  obtain ⟨rfl, hsz, hP, hK, hD0, hN⟩ := hv
  have hx := B.exec
  have hb := B.bytes
  have hr := B.returns
  have hts := atoms_spec (ws := w_Ma_refusal) B.pre
  have hg : ∀ w ∈ nn_gw, w.before _ s = true := fun w h => hts w (List.mem_cons_of_mem _ h)
  have hown : s.vm.findClass R_Ma = some m.cls := findClass_of_methodNamed B.named
  have hlocks := B.notSynchronized
  subst hsz
  have hD := hD0
  generalize hAe : (fun _ : Nat => True) = A at hD
  have hA : ∀ q : Nat, s.heap.size ≤ q → A q := fun q h => by rw [← hAe]; trivial
  have hS : va_S A s.heap s.heap [] := va_S.rf
  have hP : va_P G.1 nn_cls [(h0, .inr (3, [.ref x1, .ref x2, .int v1, .int v2, .int v3, .int v4, .int v5, .int (nI oc)])), (x1, .inl (G.2 0, 200, .inl (f))), (x2, .inl (G.2 0, 8, .inl (g)))] s.heap := hP
  have hl := lv_entry ([.ref h0, .int k, .int j]) (n := 3) (Nat.le_of_ble_eq_true rfl)
  rw [lg_entry_eq]
  generalize (lg_sl ([.ref h0, .int k, .int j]) ++ List.replicate (3 - (lg_sl ([.ref h0, .int k, .int j])).length) Slot.unset).toArray = ls at hl ⊢
  have hl : lv_has ls 3 [(0, .ref h0), (1, .int k), (2, .int j)] := hl
  refine lv_iload_n hx hb d_Ma_refusal_0 rfl (lv_at hl 1 rfl) ?_
  by_cases hk1_0 : k = 0
  · skip
    refine lv_tableIn (off := 63) (tgt := 64) hx hb d_Ma_refusal_1 (by rw [hk1_0]; decide) (by rw [hk1_0]; decide) (by rw [hk1_0]; decide) rfl ?_
    refine lv_aload_n hx hb d_Ma_refusal_64 rfl (lv_at hl 0 rfl) ?_
    refine lv_iconst (v := 1) hx hb d_Ma_refusal_65 (by decide) ?_
    have hPc := hP.sub (ws' := [(h0, .inr (3, [.ref x1, .ref x2, .int v1, .int v2, .int v3, .int v4, .int v5, .int (nI oc)])), (x1, .inl (G.2 0, 200, .inl (f))), (x2, .inl (G.2 0, 8, .inl (g)))]) [0, 1, 2] rfl
    have hDc := hD.sub (ws' := [(h0, .inr (3, [.ref x1, .ref x2, .int v1, .int v2, .int v3, .int v4, .int v5, .int (nI oc)])), (x1, .inl (G.2 0, 200, .inl (f))), (x2, .inl (G.2 0, 8, .inl (g)))]) [0, 1, 2] (by decide) rfl
    refine vp_callSi (va_Run.run (va_runV (As := [.int 1]) (rest := []) ⟨hx, hb, hml, hown, hts⟩ (g_Ma_roomFor l G _ h0 x1 x2 f g v1 v2 v3 v4 v5 oc 1) (cwV 1 hts (nn_gV mw_844 mw_841 mw_843 mw_36 mw_93) rfl rfl rfl (by decide +kernel) ⟨Nat.le_of_ble_eq_true rfl, Nat.le_of_ble_eq_true rfl⟩) (nn_preV (va_recv hK hP rfl (q0 := 0) rfl) hPc hDc hK hN) rfl rfl hl.1 rfl (lv_room (Nat.le_of_ble_eq_true rfl)) d_Ma_refusal_66 ⟨(Nat.le_of_ble_eq_true rfl), (Nat.le_of_ble_eq_true rfl)⟩)) (fun r1 er1 => ?_)
    exact W.iret (v := r1) hx hb hr (fun t ht hW => ⟨r1, rfl, trivial, ht⟩) (fun q h => by cases h) d_Ma_refusal_69
  by_cases hk1_1 : k = 1
  · skip
    refine lv_tableIn (off := 63) (tgt := 64) hx hb d_Ma_refusal_1 (by rw [hk1_1]; decide) (by rw [hk1_1]; decide) (by rw [hk1_1]; decide) rfl ?_
    refine lv_aload_n hx hb d_Ma_refusal_64 rfl (lv_at hl 0 rfl) ?_
    refine lv_iconst (v := 1) hx hb d_Ma_refusal_65 (by decide) ?_
    have hPc := hP.sub (ws' := [(h0, .inr (3, [.ref x1, .ref x2, .int v1, .int v2, .int v3, .int v4, .int v5, .int (nI oc)])), (x1, .inl (G.2 0, 200, .inl (f))), (x2, .inl (G.2 0, 8, .inl (g)))]) [0, 1, 2] rfl
    have hDc := hD.sub (ws' := [(h0, .inr (3, [.ref x1, .ref x2, .int v1, .int v2, .int v3, .int v4, .int v5, .int (nI oc)])), (x1, .inl (G.2 0, 200, .inl (f))), (x2, .inl (G.2 0, 8, .inl (g)))]) [0, 1, 2] (by decide) rfl
    refine vp_callSi (va_Run.run (va_runV (As := [.int 1]) (rest := []) ⟨hx, hb, hml, hown, hts⟩ (g_Ma_roomFor l G _ h0 x1 x2 f g v1 v2 v3 v4 v5 oc 1) (cwV 1 hts (nn_gV mw_844 mw_841 mw_843 mw_36 mw_93) rfl rfl rfl (by decide +kernel) ⟨Nat.le_of_ble_eq_true rfl, Nat.le_of_ble_eq_true rfl⟩) (nn_preV (va_recv hK hP rfl (q0 := 0) rfl) hPc hDc hK hN) rfl rfl hl.1 rfl (lv_room (Nat.le_of_ble_eq_true rfl)) d_Ma_refusal_66 ⟨(Nat.le_of_ble_eq_true rfl), (Nat.le_of_ble_eq_true rfl)⟩)) (fun r2 er2 => ?_)
    exact W.iret (v := r2) hx hb hr (fun t ht hW => ⟨r2, rfl, trivial, ht⟩) (fun q h => by cases h) d_Ma_refusal_69
  by_cases hk1_2 : k = 2
  · skip
    refine lv_tableIn (off := 132) (tgt := 133) hx hb d_Ma_refusal_1 (by rw [hk1_2]; decide) (by rw [hk1_2]; decide) (by rw [hk1_2]; decide) rfl ?_
    refine lv_iconst (v := 1) hx hb d_Ma_refusal_133 (by decide) ?_
    exact W.iret (v := 1) hx hb hr (fun t ht hW => ⟨1, rfl, trivial, ht⟩) (fun q h => by cases h) d_Ma_refusal_134
  by_cases hk1_3 : k = 3
  · skip
    refine lv_tableIn (off := 132) (tgt := 133) hx hb d_Ma_refusal_1 (by rw [hk1_3]; decide) (by rw [hk1_3]; decide) (by rw [hk1_3]; decide) rfl ?_
    refine lv_iconst (v := 1) hx hb d_Ma_refusal_133 (by decide) ?_
    exact W.iret (v := 1) hx hb hr (fun t ht hW => ⟨1, rfl, trivial, ht⟩) (fun q h => by cases h) d_Ma_refusal_134
  by_cases hk1_4 : k = 4
  · skip
    refine lv_tableIn (off := 132) (tgt := 133) hx hb d_Ma_refusal_1 (by rw [hk1_4]; decide) (by rw [hk1_4]; decide) (by rw [hk1_4]; decide) rfl ?_
    refine lv_iconst (v := 1) hx hb d_Ma_refusal_133 (by decide) ?_
    exact W.iret (v := 1) hx hb hr (fun t ht hW => ⟨1, rfl, trivial, ht⟩) (fun q h => by cases h) d_Ma_refusal_134
  by_cases hk1_5 : k = 5
  · skip
    refine lv_tableIn (off := 69) (tgt := 70) hx hb d_Ma_refusal_1 (by rw [hk1_5]; decide) (by rw [hk1_5]; decide) (by rw [hk1_5]; decide) rfl ?_
    refine lv_aload_n hx hb d_Ma_refusal_70 rfl (lv_at hl 0 rfl) ?_
    refine lv_iconst (v := 3) hx hb d_Ma_refusal_71 (by decide) ?_
    have hPc := hP.sub (ws' := [(h0, .inr (3, [.ref x1, .ref x2, .int v1, .int v2, .int v3, .int v4, .int v5, .int (nI oc)])), (x1, .inl (G.2 0, 200, .inl (f))), (x2, .inl (G.2 0, 8, .inl (g)))]) [0, 1, 2] rfl
    have hDc := hD.sub (ws' := [(h0, .inr (3, [.ref x1, .ref x2, .int v1, .int v2, .int v3, .int v4, .int v5, .int (nI oc)])), (x1, .inl (G.2 0, 200, .inl (f))), (x2, .inl (G.2 0, 8, .inl (g)))]) [0, 1, 2] (by decide) rfl
    refine vp_callSi (va_Run.run (va_runV (As := [.int 3]) (rest := []) ⟨hx, hb, hml, hown, hts⟩ (g_Ma_roomFor l G _ h0 x1 x2 f g v1 v2 v3 v4 v5 oc 3) (cwV 1 hts (nn_gV mw_844 mw_841 mw_843 mw_36 mw_93) rfl rfl rfl (by decide +kernel) ⟨Nat.le_of_ble_eq_true rfl, Nat.le_of_ble_eq_true rfl⟩) (nn_preV (va_recv hK hP rfl (q0 := 0) rfl) hPc hDc hK hN) rfl rfl hl.1 rfl (lv_room (Nat.le_of_ble_eq_true rfl)) d_Ma_refusal_72 ⟨(Nat.le_of_ble_eq_true rfl), (Nat.le_of_ble_eq_true rfl)⟩)) (fun r3 er3 => ?_)
    exact W.iret (v := r3) hx hb hr (fun t ht hW => ⟨r3, rfl, trivial, ht⟩) (fun q h => by cases h) d_Ma_refusal_75
  by_cases hk1_6 : k = 6
  · skip
    refine lv_tableIn (off := 75) (tgt := 76) hx hb d_Ma_refusal_1 (by rw [hk1_6]; decide) (by rw [hk1_6]; decide) (by rw [hk1_6]; decide) rfl ?_
    refine lv_aload_n hx hb d_Ma_refusal_76 rfl (lv_at hl 0 rfl) ?_
    refine lv_iload_n hx hb d_Ma_refusal_77 rfl (lv_at hl 2 rfl) ?_
    have hPc := hP.sub (ws' := [(h0, .inr (3, [.ref x1, .ref x2, .int v1, .int v2, .int v3, .int v4, .int v5, .int (nI oc)])), (x1, .inl (G.2 0, 200, .inl (f))), (x2, .inl (G.2 0, 8, .inl (g)))]) [0, 1, 2] rfl
    have hDc := hD.sub (ws' := [(h0, .inr (3, [.ref x1, .ref x2, .int v1, .int v2, .int v3, .int v4, .int v5, .int (nI oc)])), (x1, .inl (G.2 0, 200, .inl (f))), (x2, .inl (G.2 0, 8, .inl (g)))]) [0, 1, 2] (by decide) rfl
    refine vp_callSi (va_Run.run (va_runV (As := [.int j]) (rest := []) ⟨hx, hb, hml, hown, hts⟩ (g_Ma_roomFor l G _ h0 x1 x2 f g v1 v2 v3 v4 v5 oc j) (cwV 1 hts (nn_gV mw_844 mw_841 mw_843 mw_36 mw_93) rfl rfl rfl (by decide +kernel) ⟨Nat.le_of_ble_eq_true rfl, Nat.le_of_ble_eq_true rfl⟩) (nn_preV (va_recv hK hP rfl (q0 := 0) rfl) hPc hDc hK hN) rfl rfl hl.1 rfl (lv_room (Nat.le_of_ble_eq_true rfl)) d_Ma_refusal_78 ⟨(Nat.le_of_ble_eq_true rfl), (Nat.le_of_ble_eq_true rfl)⟩)) (fun r4 er4 => ?_)
    exact W.iret (v := r4) hx hb hr (fun t ht hW => ⟨r4, rfl, trivial, ht⟩) (fun q h => by cases h) d_Ma_refusal_81
  by_cases hk1_7 : k = 7
  · skip
    refine lv_tableIn (off := 132) (tgt := 133) hx hb d_Ma_refusal_1 (by rw [hk1_7]; decide) (by rw [hk1_7]; decide) (by rw [hk1_7]; decide) rfl ?_
    refine lv_iconst (v := 1) hx hb d_Ma_refusal_133 (by decide) ?_
    exact W.iret (v := 1) hx hb hr (fun t ht hW => ⟨1, rfl, trivial, ht⟩) (fun q h => by cases h) d_Ma_refusal_134
  by_cases hk1_8 : k = 8
  · skip
    refine lv_tableIn (off := 132) (tgt := 133) hx hb d_Ma_refusal_1 (by rw [hk1_8]; decide) (by rw [hk1_8]; decide) (by rw [hk1_8]; decide) rfl ?_
    refine lv_iconst (v := 1) hx hb d_Ma_refusal_133 (by decide) ?_
    exact W.iret (v := 1) hx hb hr (fun t ht hW => ⟨1, rfl, trivial, ht⟩) (fun q h => by cases h) d_Ma_refusal_134
  by_cases hk1_9 : k = 9
  · skip
    refine lv_tableIn (off := 110) (tgt := 111) hx hb d_Ma_refusal_1 (by rw [hk1_9]; decide) (by rw [hk1_9]; decide) (by rw [hk1_9]; decide) rfl ?_
    refine lv_iload_n hx hb d_Ma_refusal_111 rfl (lv_at hl 2 rfl) ?_
    refine lv_iconst (v := 5) hx hb d_Ma_refusal_112 (by decide) ?_
    refine lv_icmp_ne (tgt := 131) hx hb d_Ma_refusal_113 rfl (fun hc113 => ?_) (fun hc113 => ?_)
    · skip
      refine lv_iconst (v := 1) hx hb d_Ma_refusal_131 (by decide) ?_
      exact W.iret (v := 1) hx hb hr (fun t ht hW => ⟨1, rfl, trivial, ht⟩) (fun q h => by cases h) d_Ma_refusal_132
    · skip
      refine lv_aload_n hx hb d_Ma_refusal_116 rfl (lv_at hl 0 rfl) ?_
      refine lv_aload_n hx hb d_Ma_refusal_117 rfl (lv_at hl 0 rfl) ?_
      refine va_get (D := G.1) (ci := 3) (v := .int v4) (C := R_Ma) (T := T_Ma) (N := 8) hx hb hg in_Ma hown hK hP 0 rfl rfl 5 (by decide) (hg _ mw_251) (fun _ h9 => h9) rfl d_Ma_refusal_118 ?_
      have hPc := hP.sub (ws' := [(h0, .inr (3, [.ref x1, .ref x2, .int v1, .int v2, .int v3, .int v4, .int v5, .int (nI oc)])), (x1, .inl (G.2 0, 200, .inl (f))), (x2, .inl (G.2 0, 8, .inl (g)))]) [0, 1, 2] rfl
      have hDc := hD.sub (ws' := [(h0, .inr (3, [.ref x1, .ref x2, .int v1, .int v2, .int v3, .int v4, .int v5, .int (nI oc)])), (x1, .inl (G.2 0, 200, .inl (f))), (x2, .inl (G.2 0, 8, .inl (g)))]) [0, 1, 2] (by decide) rfl
      refine vp_callSi (va_Run.run (va_runV (As := [.int v4]) (rest := []) ⟨hx, hb, hml, hown, hts⟩ (g_Ma_at l G _ h0 x1 x2 f g v1 v2 v3 v4 v5 oc v4) (cwV 1 hts (nn_gV mw_368 mw_365 mw_367 mw_2 mw_93) rfl rfl rfl (by decide +kernel) ⟨Nat.le_of_ble_eq_true rfl, Nat.le_of_ble_eq_true rfl⟩) (nn_preV (va_recv hK hP rfl (q0 := 0) rfl) hPc hDc hK hN) rfl rfl hl.1 rfl (lv_room (Nat.le_of_ble_eq_true rfl)) d_Ma_refusal_121 ⟨(Nat.le_of_ble_eq_true rfl), (Nat.le_of_ble_eq_true rfl)⟩)) (fun r5 er5 => ?_)
      refine lv_if_ne (tgt := 131) hx hb d_Ma_refusal_124 rfl (fun hc124 => ?_) (fun hc124 => ?_)
      · skip
        refine lv_iconst (v := 1) hx hb d_Ma_refusal_131 (by decide) ?_
        exact W.iret (v := 1) hx hb hr (fun t ht hW => ⟨1, rfl, trivial, ht⟩) (fun q h => by cases h) d_Ma_refusal_132
      · skip
        refine lv_iconst (v := 5) hx hb d_Ma_refusal_127 (by decide) ?_
        refine lv_goto (tgt := 132) hx hb d_Ma_refusal_128 rfl ?_
        exact W.iret (v := 5) hx hb hr (fun t ht hW => ⟨5, rfl, trivial, ht⟩) (fun q h => by cases h) d_Ma_refusal_132
  by_cases hk1_10 : k = 10
  · skip
    refine lv_tableIn (off := 132) (tgt := 133) hx hb d_Ma_refusal_1 (by rw [hk1_10]; decide) (by rw [hk1_10]; decide) (by rw [hk1_10]; decide) rfl ?_
    refine lv_iconst (v := 1) hx hb d_Ma_refusal_133 (by decide) ?_
    exact W.iret (v := 1) hx hb hr (fun t ht hW => ⟨1, rfl, trivial, ht⟩) (fun q h => by cases h) d_Ma_refusal_134
  by_cases hk1_11 : k = 11
  · skip
    refine lv_tableIn (off := 81) (tgt := 82) hx hb d_Ma_refusal_1 (by rw [hk1_11]; decide) (by rw [hk1_11]; decide) (by rw [hk1_11]; decide) rfl ?_
    refine lv_aload_n hx hb d_Ma_refusal_82 rfl (lv_at hl 0 rfl) ?_
    refine lv_aload_n hx hb d_Ma_refusal_83 rfl (lv_at hl 0 rfl) ?_
    refine va_get (D := G.1) (ci := 3) (v := .int v4) (C := R_Ma) (T := T_Ma) (N := 8) hx hb hg in_Ma hown hK hP 0 rfl rfl 5 (by decide) (hg _ mw_251) (fun _ h9 => h9) rfl d_Ma_refusal_84 ?_
    have hPc := hP.sub (ws' := [(h0, .inr (3, [.ref x1, .ref x2, .int v1, .int v2, .int v3, .int v4, .int v5, .int (nI oc)])), (x1, .inl (G.2 0, 200, .inl (f))), (x2, .inl (G.2 0, 8, .inl (g)))]) [0, 1, 2] rfl
    have hDc := hD.sub (ws' := [(h0, .inr (3, [.ref x1, .ref x2, .int v1, .int v2, .int v3, .int v4, .int v5, .int (nI oc)])), (x1, .inl (G.2 0, 200, .inl (f))), (x2, .inl (G.2 0, 8, .inl (g)))]) [0, 1, 2] (by decide) rfl
    refine vp_callSi (va_Run.run (va_runV (As := [.int v4]) (rest := []) ⟨hx, hb, hml, hown, hts⟩ (g_Ma_at l G _ h0 x1 x2 f g v1 v2 v3 v4 v5 oc v4) (cwV 1 hts (nn_gV mw_368 mw_365 mw_367 mw_2 mw_93) rfl rfl rfl (by decide +kernel) ⟨Nat.le_of_ble_eq_true rfl, Nat.le_of_ble_eq_true rfl⟩) (nn_preV (va_recv hK hP rfl (q0 := 0) rfl) hPc hDc hK hN) rfl rfl hl.1 rfl (lv_room (Nat.le_of_ble_eq_true rfl)) d_Ma_refusal_87 ⟨(Nat.le_of_ble_eq_true rfl), (Nat.le_of_ble_eq_true rfl)⟩)) (fun r6 er6 => ?_)
    refine lv_if_lt (tgt := 109) hx hb d_Ma_refusal_90 rfl (fun hc90 => ?_) (fun hc90 => ?_)
    · skip
      refine lv_iconst (v := 4) hx hb d_Ma_refusal_109 (by decide) ?_
      exact W.iret (v := 4) hx hb hr (fun t ht hW => ⟨4, rfl, trivial, ht⟩) (fun q h => by cases h) d_Ma_refusal_110
    · skip
      refine lv_aload_n hx hb d_Ma_refusal_93 rfl (lv_at hl 0 rfl) ?_
      refine lv_aload_n hx hb d_Ma_refusal_94 rfl (lv_at hl 0 rfl) ?_
      refine va_get (D := G.1) (ci := 3) (v := .int v4) (C := R_Ma) (T := T_Ma) (N := 8) hx hb hg in_Ma hown hK hP 0 rfl rfl 5 (by decide) (hg _ mw_251) (fun _ h9 => h9) rfl d_Ma_refusal_95 ?_
      have hPc := hP.sub (ws' := [(h0, .inr (3, [.ref x1, .ref x2, .int v1, .int v2, .int v3, .int v4, .int v5, .int (nI oc)])), (x1, .inl (G.2 0, 200, .inl (f))), (x2, .inl (G.2 0, 8, .inl (g)))]) [0, 1, 2] rfl
      have hDc := hD.sub (ws' := [(h0, .inr (3, [.ref x1, .ref x2, .int v1, .int v2, .int v3, .int v4, .int v5, .int (nI oc)])), (x1, .inl (G.2 0, 200, .inl (f))), (x2, .inl (G.2 0, 8, .inl (g)))]) [0, 1, 2] (by decide) rfl
      refine vp_callSi (va_Run.run (va_runV (As := [.int v4]) (rest := []) ⟨hx, hb, hml, hown, hts⟩ (g_Ma_at l G _ h0 x1 x2 f g v1 v2 v3 v4 v5 oc v4) (cwV 1 hts (nn_gV mw_368 mw_365 mw_367 mw_2 mw_93) rfl rfl rfl (by decide +kernel) ⟨Nat.le_of_ble_eq_true rfl, Nat.le_of_ble_eq_true rfl⟩) (nn_preV (va_recv hK hP rfl (q0 := 0) rfl) hPc hDc hK hN) rfl rfl hl.1 rfl (lv_room (Nat.le_of_ble_eq_true rfl)) d_Ma_refusal_98 ⟨(Nat.le_of_ble_eq_true rfl), (Nat.le_of_ble_eq_true rfl)⟩)) (fun r7 er7 => ?_)
      refine lv_iload_n hx hb d_Ma_refusal_101 rfl (lv_at hl 2 rfl) ?_
      refine lv_icmp_ge (tgt := 109) hx hb d_Ma_refusal_102 rfl (fun hc102 => ?_) (fun hc102 => ?_)
      · skip
        refine lv_iconst (v := 4) hx hb d_Ma_refusal_109 (by decide) ?_
        exact W.iret (v := 4) hx hb hr (fun t ht hW => ⟨4, rfl, trivial, ht⟩) (fun q h => by cases h) d_Ma_refusal_110
      · skip
        refine lv_iconst (v := 1) hx hb d_Ma_refusal_105 (by decide) ?_
        refine lv_goto (tgt := 110) hx hb d_Ma_refusal_106 rfl ?_
        exact W.iret (v := 1) hx hb hr (fun t ht hW => ⟨1, rfl, trivial, ht⟩) (fun q h => by cases h) d_Ma_refusal_110
  refine lv_tableOut (tgt := 133) hx hb d_Ma_refusal_1 (by have q0 := lv_neT hk1_0 (show (0 : Int32).toInt = 0 by decide); have q1 := lv_neT hk1_1 (show (1 : Int32).toInt = 1 by decide); have q2 := lv_neT hk1_2 (show (2 : Int32).toInt = 2 by decide); have q3 := lv_neT hk1_3 (show (3 : Int32).toInt = 3 by decide); have q4 := lv_neT hk1_4 (show (4 : Int32).toInt = 4 by decide); have q5 := lv_neT hk1_5 (show (5 : Int32).toInt = 5 by decide); have q6 := lv_neT hk1_6 (show (6 : Int32).toInt = 6 by decide); have q7 := lv_neT hk1_7 (show (7 : Int32).toInt = 7 by decide); have q8 := lv_neT hk1_8 (show (8 : Int32).toInt = 8 by decide); have q9 := lv_neT hk1_9 (show (9 : Int32).toInt = 9 by decide); have q10 := lv_neT hk1_10 (show (10 : Int32).toInt = 10 by decide); have q11 := lv_neT hk1_11 (show (11 : Int32).toInt = 11 by decide); omega) rfl ?_
  refine lv_iconst (v := 1) hx hb d_Ma_refusal_133 (by decide) ?_
  exact W.iret (v := 1) hx hb hr (fun t ht hW => ⟨1, rfl, trivial, ht⟩) (fun q h => by cases h) d_Ma_refusal_134

theorem d_Ma_isRunning_0 : decode b_Ma_isRunning 0 = .ok (.aload_n 0, 1) := by decide +kernel
theorem d_Ma_isRunning_1 : decode b_Ma_isRunning 1 = .ok (.getfield 18, 3) := by decide +kernel
theorem d_Ma_isRunning_4 : decode b_Ma_isRunning 4 = .ok (.iconst 1, 1) := by decide +kernel
theorem d_Ma_isRunning_5 : decode b_Ma_isRunning 5 = .ok (.if_icmp .ne 7, 3) := by decide +kernel
theorem d_Ma_isRunning_8 : decode b_Ma_isRunning 8 = .ok (.iconst 1, 1) := by decide +kernel
theorem d_Ma_isRunning_9 : decode b_Ma_isRunning 9 = .ok (.goto 4, 3) := by decide +kernel
theorem d_Ma_isRunning_12 : decode b_Ma_isRunning 12 = .ok (.iconst 0, 1) := by decide +kernel
theorem d_Ma_isRunning_13 : decode b_Ma_isRunning 13 = .ok (.ireturn, 1) := by decide +kernel

set_option maxHeartbeats 4000000 in
set_option maxRecDepth 100000 in
theorem g_Ma_isRunning (l : Launch) (G : nn_G) (sz : Nat) (h0 x1 x2 : Nat) (f g : Nat → Int32) (v1 v2 v3 v4 v5 : Int32) (oc : Nat) : Met l y_Ma_isRunning w_Ma_isRunning ({ frames := 0, cells := 0, slots := 0, locals := 0 }) (nn_P G [.ref h0] [(h0, .inr (3, [.ref x1, .ref x2, .int v1, .int v2, .int v3, .int v4, .int v5, .int (nI oc)])), (x1, .inl (G.2 0, 200, .inl (f))), (x2, .inl (G.2 0, 8, .inl (g)))] sz) (vp_Si (fun r => True)) 0 0 (fun _ => False) := by
  refine Met.ofW (cc := b_Ma_isRunning) (maxL := 1) (ret := some .boolean) (by decide) rfl ?_
  intro p e s m args below meth c s₁ B hml hv
  obtain ⟨rfl, hsz, hP, hK, hD0, hN⟩ := hv
  have hx := B.exec
  have hb := B.bytes
  have hr := B.returns
  have hts := atoms_spec (ws := w_Ma_isRunning) B.pre
  have hg : ∀ w ∈ nn_gw, w.before _ s = true := fun w h => hts w (List.mem_cons_of_mem _ h)
  have hown : s.vm.findClass R_Ma = some m.cls := findClass_of_methodNamed B.named
  have hlocks := B.notSynchronized
  subst hsz
  have hD := hD0
  generalize hAe : (fun _ : Nat => True) = A at hD
  have hA : ∀ q : Nat, s.heap.size ≤ q → A q := fun q h => by rw [← hAe]; trivial
  have hS : va_S A s.heap s.heap [] := va_S.rf
  have hP : va_P G.1 nn_cls [(h0, .inr (3, [.ref x1, .ref x2, .int v1, .int v2, .int v3, .int v4, .int v5, .int (nI oc)])), (x1, .inl (G.2 0, 200, .inl (f))), (x2, .inl (G.2 0, 8, .inl (g)))] s.heap := hP
  have hl := lv_entry ([.ref h0]) (n := 1) (Nat.le_of_ble_eq_true rfl)
  rw [lg_entry_eq]
  generalize (lg_sl ([.ref h0]) ++ List.replicate (1 - (lg_sl ([.ref h0])).length) Slot.unset).toArray = ls at hl ⊢
  have hl : lv_has ls 1 [(0, .ref h0)] := hl
  refine lv_aload_n hx hb d_Ma_isRunning_0 rfl (lv_at hl 0 rfl) ?_
  refine va_get (D := G.1) (ci := 3) (v := .int v1) (C := R_Ma) (T := T_Ma) (N := 8) hx hb hg in_Ma hown hK hP 0 rfl rfl 2 (by decide) (hg _ mw_248) (fun _ h9 => h9) rfl d_Ma_isRunning_1 ?_
  refine lv_iconst (v := 1) hx hb d_Ma_isRunning_4 (by decide) ?_
  refine lv_icmp_ne (tgt := 12) hx hb d_Ma_isRunning_5 rfl (fun hc5 => ?_) (fun hc5 => ?_)
  · skip
    refine lv_iconst (v := 0) hx hb d_Ma_isRunning_12 (by decide) ?_
    exact W.zret (v := 0) hx hb hr rfl (fun t ht hW => ⟨0, rfl, trivial, ht⟩) (fun q h => by cases h) d_Ma_isRunning_13
  · skip
    refine lv_iconst (v := 1) hx hb d_Ma_isRunning_8 (by decide) ?_
    refine lv_goto (tgt := 13) hx hb d_Ma_isRunning_9 rfl ?_
    exact W.zret (v := 1) hx hb hr rfl (fun t ht hW => ⟨1, rfl, trivial, ht⟩) (fun q h => by cases h) d_Ma_isRunning_13

theorem d_Ma_fact_0 : decode b_Ma_fact 0 = .ok (.iload_n 1, 1) := by decide +kernel
theorem d_Ma_fact_1 : decode b_Ma_fact 1 = .ok (.tableswitch 69 0 5 #[39, 44, 49, 54, 59, 64], 39) := by decide +kernel
theorem d_Ma_fact_40 : decode b_Ma_fact 40 = .ok (.aload_n 0, 1) := by decide +kernel
theorem d_Ma_fact_41 : decode b_Ma_fact 41 = .ok (.getfield 18, 3) := by decide +kernel
theorem d_Ma_fact_44 : decode b_Ma_fact 44 = .ok (.ireturn, 1) := by decide +kernel
theorem d_Ma_fact_45 : decode b_Ma_fact 45 = .ok (.aload_n 0, 1) := by decide +kernel
theorem d_Ma_fact_46 : decode b_Ma_fact 46 = .ok (.getfield 22, 3) := by decide +kernel
theorem d_Ma_fact_49 : decode b_Ma_fact 49 = .ok (.ireturn, 1) := by decide +kernel
theorem d_Ma_fact_50 : decode b_Ma_fact 50 = .ok (.aload_n 0, 1) := by decide +kernel
theorem d_Ma_fact_51 : decode b_Ma_fact 51 = .ok (.getfield 25, 3) := by decide +kernel
theorem d_Ma_fact_54 : decode b_Ma_fact 54 = .ok (.ireturn, 1) := by decide +kernel
theorem d_Ma_fact_55 : decode b_Ma_fact 55 = .ok (.aload_n 0, 1) := by decide +kernel
theorem d_Ma_fact_56 : decode b_Ma_fact 56 = .ok (.getfield 28, 3) := by decide +kernel
theorem d_Ma_fact_59 : decode b_Ma_fact 59 = .ok (.ireturn, 1) := by decide +kernel
theorem d_Ma_fact_60 : decode b_Ma_fact 60 = .ok (.aload_n 0, 1) := by decide +kernel
theorem d_Ma_fact_61 : decode b_Ma_fact 61 = .ok (.getfield 31, 3) := by decide +kernel
theorem d_Ma_fact_64 : decode b_Ma_fact 64 = .ok (.ireturn, 1) := by decide +kernel
theorem d_Ma_fact_65 : decode b_Ma_fact 65 = .ok (.aload_n 0, 1) := by decide +kernel
theorem d_Ma_fact_66 : decode b_Ma_fact 66 = .ok (.getfield 34, 3) := by decide +kernel
theorem d_Ma_fact_69 : decode b_Ma_fact 69 = .ok (.ireturn, 1) := by decide +kernel
theorem d_Ma_fact_70 : decode b_Ma_fact 70 = .ok (.iconst (-1), 1) := by decide +kernel
theorem d_Ma_fact_71 : decode b_Ma_fact 71 = .ok (.ireturn, 1) := by decide +kernel

set_option maxHeartbeats 4000000 in
set_option maxRecDepth 100000 in
theorem g_Ma_fact (l : Launch) (G : nn_G) (sz : Nat) (h0 x1 x2 : Nat) (f g : Nat → Int32) (v1 v2 v3 v4 v5 : Int32) (oc : Nat) (k : Int32) : Met l y_Ma_fact w_Ma_fact ({ frames := 0, cells := 0, slots := 0, locals := 0 }) (nn_P G [.ref h0, .int k] [(h0, .inr (3, [.ref x1, .ref x2, .int v1, .int v2, .int v3, .int v4, .int v5, .int (nI oc)])), (x1, .inl (G.2 0, 200, .inl (f))), (x2, .inl (G.2 0, 8, .inl (g)))] sz) (vp_Si (fun r => True)) 0 0 (fun _ => False) := by
  refine Met.ofW (cc := b_Ma_fact) (maxL := 2) (ret := some .int) (by decide) rfl ?_
  intro p e s m args below meth c s₁ B hml hv
  obtain ⟨rfl, hsz, hP, hK, hD0, hN⟩ := hv
  have hx := B.exec
  have hb := B.bytes
  have hr := B.returns
  have hts := atoms_spec (ws := w_Ma_fact) B.pre
  have hg : ∀ w ∈ nn_gw, w.before _ s = true := fun w h => hts w (List.mem_cons_of_mem _ h)
  have hown : s.vm.findClass R_Ma = some m.cls := findClass_of_methodNamed B.named
  have hlocks := B.notSynchronized
  subst hsz
  have hD := hD0
  generalize hAe : (fun _ : Nat => True) = A at hD
  have hA : ∀ q : Nat, s.heap.size ≤ q → A q := fun q h => by rw [← hAe]; trivial
  have hS : va_S A s.heap s.heap [] := va_S.rf
  have hP : va_P G.1 nn_cls [(h0, .inr (3, [.ref x1, .ref x2, .int v1, .int v2, .int v3, .int v4, .int v5, .int (nI oc)])), (x1, .inl (G.2 0, 200, .inl (f))), (x2, .inl (G.2 0, 8, .inl (g)))] s.heap := hP
  have hl := lv_entry ([.ref h0, .int k]) (n := 2) (Nat.le_of_ble_eq_true rfl)
  rw [lg_entry_eq]
  generalize (lg_sl ([.ref h0, .int k]) ++ List.replicate (2 - (lg_sl ([.ref h0, .int k])).length) Slot.unset).toArray = ls at hl ⊢
  have hl : lv_has ls 2 [(0, .ref h0), (1, .int k)] := hl
  refine lv_iload_n hx hb d_Ma_fact_0 rfl (lv_at hl 1 rfl) ?_
  by_cases hk1_0 : k = 0
  · skip
    refine lv_tableIn (off := 39) (tgt := 40) hx hb d_Ma_fact_1 (by rw [hk1_0]; decide) (by rw [hk1_0]; decide) (by rw [hk1_0]; decide) rfl ?_
    refine lv_aload_n hx hb d_Ma_fact_40 rfl (lv_at hl 0 rfl) ?_
    refine va_get (D := G.1) (ci := 3) (v := .int v1) (C := R_Ma) (T := T_Ma) (N := 8) hx hb hg in_Ma hown hK hP 0 rfl rfl 2 (by decide) (hg _ mw_248) (fun _ h9 => h9) rfl d_Ma_fact_41 ?_
    exact W.iret (v := v1) hx hb hr (fun t ht hW => ⟨v1, rfl, trivial, ht⟩) (fun q h => by cases h) d_Ma_fact_44
  by_cases hk1_1 : k = 1
  · skip
    refine lv_tableIn (off := 44) (tgt := 45) hx hb d_Ma_fact_1 (by rw [hk1_1]; decide) (by rw [hk1_1]; decide) (by rw [hk1_1]; decide) rfl ?_
    refine lv_aload_n hx hb d_Ma_fact_45 rfl (lv_at hl 0 rfl) ?_
    refine va_get (D := G.1) (ci := 3) (v := .int v2) (C := R_Ma) (T := T_Ma) (N := 8) hx hb hg in_Ma hown hK hP 0 rfl rfl 3 (by decide) (hg _ mw_249) (fun _ h9 => h9) rfl d_Ma_fact_46 ?_
    exact W.iret (v := v2) hx hb hr (fun t ht hW => ⟨v2, rfl, trivial, ht⟩) (fun q h => by cases h) d_Ma_fact_49
  by_cases hk1_2 : k = 2
  · skip
    refine lv_tableIn (off := 49) (tgt := 50) hx hb d_Ma_fact_1 (by rw [hk1_2]; decide) (by rw [hk1_2]; decide) (by rw [hk1_2]; decide) rfl ?_
    refine lv_aload_n hx hb d_Ma_fact_50 rfl (lv_at hl 0 rfl) ?_
    refine va_get (D := G.1) (ci := 3) (v := .int v3) (C := R_Ma) (T := T_Ma) (N := 8) hx hb hg in_Ma hown hK hP 0 rfl rfl 4 (by decide) (hg _ mw_250) (fun _ h9 => h9) rfl d_Ma_fact_51 ?_
    exact W.iret (v := v3) hx hb hr (fun t ht hW => ⟨v3, rfl, trivial, ht⟩) (fun q h => by cases h) d_Ma_fact_54
  by_cases hk1_3 : k = 3
  · skip
    refine lv_tableIn (off := 54) (tgt := 55) hx hb d_Ma_fact_1 (by rw [hk1_3]; decide) (by rw [hk1_3]; decide) (by rw [hk1_3]; decide) rfl ?_
    refine lv_aload_n hx hb d_Ma_fact_55 rfl (lv_at hl 0 rfl) ?_
    refine va_get (D := G.1) (ci := 3) (v := .int v4) (C := R_Ma) (T := T_Ma) (N := 8) hx hb hg in_Ma hown hK hP 0 rfl rfl 5 (by decide) (hg _ mw_251) (fun _ h9 => h9) rfl d_Ma_fact_56 ?_
    exact W.iret (v := v4) hx hb hr (fun t ht hW => ⟨v4, rfl, trivial, ht⟩) (fun q h => by cases h) d_Ma_fact_59
  by_cases hk1_4 : k = 4
  · skip
    refine lv_tableIn (off := 59) (tgt := 60) hx hb d_Ma_fact_1 (by rw [hk1_4]; decide) (by rw [hk1_4]; decide) (by rw [hk1_4]; decide) rfl ?_
    refine lv_aload_n hx hb d_Ma_fact_60 rfl (lv_at hl 0 rfl) ?_
    refine va_get (D := G.1) (ci := 3) (v := .int v5) (C := R_Ma) (T := T_Ma) (N := 8) hx hb hg in_Ma hown hK hP 0 rfl rfl 6 (by decide) (hg _ mw_252) (fun _ h9 => h9) rfl d_Ma_fact_61 ?_
    exact W.iret (v := v5) hx hb hr (fun t ht hW => ⟨v5, rfl, trivial, ht⟩) (fun q h => by cases h) d_Ma_fact_64
  by_cases hk1_5 : k = 5
  · skip
    refine lv_tableIn (off := 64) (tgt := 65) hx hb d_Ma_fact_1 (by rw [hk1_5]; decide) (by rw [hk1_5]; decide) (by rw [hk1_5]; decide) rfl ?_
    refine lv_aload_n hx hb d_Ma_fact_65 rfl (lv_at hl 0 rfl) ?_
    refine va_get (D := G.1) (ci := 3) (v := .int (nI oc)) (C := R_Ma) (T := T_Ma) (N := 8) hx hb hg in_Ma hown hK hP 0 rfl rfl 7 (by decide) (hg _ mw_253) (fun _ h9 => h9) rfl d_Ma_fact_66 ?_
    exact W.iret (v := nI oc) hx hb hr (fun t ht hW => ⟨nI oc, rfl, trivial, ht⟩) (fun q h => by cases h) d_Ma_fact_69
  refine lv_tableOut (tgt := 70) hx hb d_Ma_fact_1 (by have q0 := lv_neT hk1_0 (show (0 : Int32).toInt = 0 by decide); have q1 := lv_neT hk1_1 (show (1 : Int32).toInt = 1 by decide); have q2 := lv_neT hk1_2 (show (2 : Int32).toInt = 2 by decide); have q3 := lv_neT hk1_3 (show (3 : Int32).toInt = 3 by decide); have q4 := lv_neT hk1_4 (show (4 : Int32).toInt = 4 by decide); have q5 := lv_neT hk1_5 (show (5 : Int32).toInt = 5 by decide); omega) rfl ?_
  refine lv_iconst (v := (-1)) hx hb d_Ma_fact_70 (by decide) ?_
  exact W.iret (v := (-1)) hx hb hr (fun t ht hW => ⟨(-1), rfl, trivial, ht⟩) (fun q h => by cases h) d_Ma_fact_71

theorem d_Ma_visibleCell_0 : decode b_Ma_visibleCell 0 = .ok (.iload_n 1, 1) := by decide +kernel
theorem d_Ma_visibleCell_1 : decode b_Ma_visibleCell 1 = .ok (.aload_n 0, 1) := by decide +kernel
theorem d_Ma_visibleCell_2 : decode b_Ma_visibleCell 2 = .ok (.getfield 25, 3) := by decide +kernel
theorem d_Ma_visibleCell_5 : decode b_Ma_visibleCell 5 = .ok (.if_icmp .lt 17, 3) := by decide +kernel
theorem d_Ma_visibleCell_8 : decode b_Ma_visibleCell 8 = .ok (.iload_n 1, 1) := by decide +kernel
theorem d_Ma_visibleCell_9 : decode b_Ma_visibleCell 9 = .ok (.aload_n 0, 1) := by decide +kernel
theorem d_Ma_visibleCell_10 : decode b_Ma_visibleCell 10 = .ok (.getfield 25, 3) := by decide +kernel
theorem d_Ma_visibleCell_13 : decode b_Ma_visibleCell 13 = .ok (.iconst 3, 1) := by decide +kernel
theorem d_Ma_visibleCell_14 : decode b_Ma_visibleCell 14 = .ok (.iadd, 1) := by decide +kernel
theorem d_Ma_visibleCell_15 : decode b_Ma_visibleCell 15 = .ok (.if_icmp .ge 7, 3) := by decide +kernel
theorem d_Ma_visibleCell_18 : decode b_Ma_visibleCell 18 = .ok (.iconst 1, 1) := by decide +kernel
theorem d_Ma_visibleCell_19 : decode b_Ma_visibleCell 19 = .ok (.goto 4, 3) := by decide +kernel
theorem d_Ma_visibleCell_22 : decode b_Ma_visibleCell 22 = .ok (.iconst 0, 1) := by decide +kernel
theorem d_Ma_visibleCell_23 : decode b_Ma_visibleCell 23 = .ok (.istore_n 2, 1) := by decide +kernel
theorem d_Ma_visibleCell_24 : decode b_Ma_visibleCell 24 = .ok (.iload_n 1, 1) := by decide +kernel
theorem d_Ma_visibleCell_25 : decode b_Ma_visibleCell 25 = .ok (.aload_n 0, 1) := by decide +kernel
theorem d_Ma_visibleCell_26 : decode b_Ma_visibleCell 26 = .ok (.getfield 28, 3) := by decide +kernel
theorem d_Ma_visibleCell_29 : decode b_Ma_visibleCell 29 = .ok (.if_icmp .le 7, 3) := by decide +kernel
theorem d_Ma_visibleCell_32 : decode b_Ma_visibleCell 32 = .ok (.iload_n 2, 1) := by decide +kernel
theorem d_Ma_visibleCell_33 : decode b_Ma_visibleCell 33 = .ok (.ifCond .eq 11, 3) := by decide +kernel
theorem d_Ma_visibleCell_36 : decode b_Ma_visibleCell 36 = .ok (.aload_n 0, 1) := by decide +kernel
theorem d_Ma_visibleCell_37 : decode b_Ma_visibleCell 37 = .ok (.iload_n 1, 1) := by decide +kernel
theorem d_Ma_visibleCell_38 : decode b_Ma_visibleCell 38 = .ok (.invokevirtual 46, 3) := by decide +kernel
theorem d_Ma_visibleCell_41 : decode b_Ma_visibleCell 41 = .ok (.goto 4, 3) := by decide +kernel
theorem d_Ma_visibleCell_44 : decode b_Ma_visibleCell 44 = .ok (.iconst 0, 1) := by decide +kernel
theorem d_Ma_visibleCell_45 : decode b_Ma_visibleCell 45 = .ok (.ireturn, 1) := by decide +kernel

set_option maxHeartbeats 4000000 in
set_option maxRecDepth 100000 in
theorem g_Ma_visibleCell (l : Launch) (G : nn_G) (sz : Nat) (h0 x1 x2 : Nat) (f g : Nat → Int32) (v1 v2 v3 v4 v5 : Int32) (oc : Nat) (k : Int32) : Met l y_Ma_visibleCell w_Ma_visibleCell ({ frames := 1, cells := 0, slots := 0, locals := 21 }) (nn_P G [.ref h0, .int k] [(h0, .inr (3, [.ref x1, .ref x2, .int v1, .int v2, .int v3, .int v4, .int v5, .int (nI oc)])), (x1, .inl (G.2 0, 200, .inl (f))), (x2, .inl (G.2 0, 8, .inl (g)))] sz) (vp_Si (fun r => True)) 0 0 (fun _ => False) := by
  refine Met.ofW (cc := b_Ma_visibleCell) (maxL := 3) (ret := some .int) (by decide) rfl ?_
  intro p e s m args below meth c s₁ B hml hv
  obtain ⟨rfl, hsz, hP, hK, hD0, hN⟩ := hv
  have hx := B.exec
  have hb := B.bytes
  have hr := B.returns
  have hts := atoms_spec (ws := w_Ma_visibleCell) B.pre
  have hg : ∀ w ∈ nn_gw, w.before _ s = true := fun w h => hts w (List.mem_cons_of_mem _ h)
  have hown : s.vm.findClass R_Ma = some m.cls := findClass_of_methodNamed B.named
  have hlocks := B.notSynchronized
  subst hsz
  have hD := hD0
  generalize hAe : (fun _ : Nat => True) = A at hD
  have hA : ∀ q : Nat, s.heap.size ≤ q → A q := fun q h => by rw [← hAe]; trivial
  have hS : va_S A s.heap s.heap [] := va_S.rf
  have hP : va_P G.1 nn_cls [(h0, .inr (3, [.ref x1, .ref x2, .int v1, .int v2, .int v3, .int v4, .int v5, .int (nI oc)])), (x1, .inl (G.2 0, 200, .inl (f))), (x2, .inl (G.2 0, 8, .inl (g)))] s.heap := hP
  have hl := lv_entry ([.ref h0, .int k]) (n := 3) (Nat.le_of_ble_eq_true rfl)
  rw [lg_entry_eq]
  generalize (lg_sl ([.ref h0, .int k]) ++ List.replicate (3 - (lg_sl ([.ref h0, .int k])).length) Slot.unset).toArray = ls at hl ⊢
  have hl : lv_has ls 3 [(0, .ref h0), (1, .int k)] := hl
  refine lv_iload_n hx hb d_Ma_visibleCell_0 rfl (lv_at hl 1 rfl) ?_
  refine lv_aload_n hx hb d_Ma_visibleCell_1 rfl (lv_at hl 0 rfl) ?_
  refine va_get (D := G.1) (ci := 3) (v := .int v3) (C := R_Ma) (T := T_Ma) (N := 8) hx hb hg in_Ma hown hK hP 0 rfl rfl 4 (by decide) (hg _ mw_250) (fun _ h9 => h9) rfl d_Ma_visibleCell_2 ?_
  refine lv_icmp_lt (tgt := 22) hx hb d_Ma_visibleCell_5 rfl (fun hc5 => ?_) (fun hc5 => ?_)
  · skip
    refine lv_iconst (v := 0) hx hb d_Ma_visibleCell_22 (by decide) ?_
    refine lv_istore_n (lv' := [(2, .int 0), (0, .ref h0), (1, .int k)]) hx hb d_Ma_visibleCell_23 rfl hl (by decide) rfl (fun ls hl => ?_)
    refine lv_iload_n hx hb d_Ma_visibleCell_24 rfl (lv_at hl 2 rfl) ?_
    refine lv_aload_n hx hb d_Ma_visibleCell_25 rfl (lv_at hl 1 rfl) ?_
    refine va_get (D := G.1) (ci := 3) (v := .int v4) (C := R_Ma) (T := T_Ma) (N := 8) hx hb hg in_Ma hown hK hP 0 rfl rfl 5 (by decide) (hg _ mw_251) (fun _ h9 => h9) rfl d_Ma_visibleCell_26 ?_
    refine lv_icmp_le (tgt := 36) hx hb d_Ma_visibleCell_29 rfl (fun hc29 => ?_) (fun hc29 => ?_)
    · skip
      refine lv_aload_n hx hb d_Ma_visibleCell_36 rfl (lv_at hl 1 rfl) ?_
      refine lv_iload_n hx hb d_Ma_visibleCell_37 rfl (lv_at hl 2 rfl) ?_
      have hPc := hP.sub (ws' := [(h0, .inr (3, [.ref x1, .ref x2, .int v1, .int v2, .int v3, .int v4, .int v5, .int (nI oc)])), (x1, .inl (G.2 0, 200, .inl (f))), (x2, .inl (G.2 0, 8, .inl (g)))]) [0, 1, 2] rfl
      have hDc := hD.sub (ws' := [(h0, .inr (3, [.ref x1, .ref x2, .int v1, .int v2, .int v3, .int v4, .int v5, .int (nI oc)])), (x1, .inl (G.2 0, 200, .inl (f))), (x2, .inl (G.2 0, 8, .inl (g)))]) [0, 1, 2] (by decide) rfl
      refine vp_callSi (va_Run.run (va_runV (As := [.int k]) (rest := []) ⟨hx, hb, hml, hown, hts⟩ (g_Ma_at l G _ h0 x1 x2 f g v1 v2 v3 v4 v5 oc k) (cwV 1 hts (nn_gV mw_368 mw_365 mw_367 mw_2 mw_93) rfl rfl rfl (by decide +kernel) ⟨Nat.le_of_ble_eq_true rfl, Nat.le_of_ble_eq_true rfl⟩) (nn_preV (va_recv hK hP rfl (q0 := 0) rfl) hPc hDc hK hN) rfl rfl hl.1 rfl (lv_room (Nat.le_of_ble_eq_true rfl)) d_Ma_visibleCell_38 ⟨(Nat.le_of_ble_eq_true rfl), (Nat.le_of_ble_eq_true rfl)⟩)) (fun r1 er1 => ?_)
      refine lv_goto (tgt := 45) hx hb d_Ma_visibleCell_41 rfl ?_
      exact W.iret (v := r1) hx hb hr (fun t ht hW => ⟨r1, rfl, trivial, ht⟩) (fun q h => by cases h) d_Ma_visibleCell_45
    · skip
      refine lv_iload_n hx hb d_Ma_visibleCell_32 rfl (lv_at hl 0 rfl) ?_
      refine lv_if_eq (tgt := 44) hx hb d_Ma_visibleCell_33 rfl (fun _ => ?_) (fun h => absurd (by decide) h)
      refine lv_iconst (v := 0) hx hb d_Ma_visibleCell_44 (by decide) ?_
      exact W.iret (v := 0) hx hb hr (fun t ht hW => ⟨0, rfl, trivial, ht⟩) (fun q h => by cases h) d_Ma_visibleCell_45
  · skip
    refine lv_iload_n hx hb d_Ma_visibleCell_8 rfl (lv_at hl 1 rfl) ?_
    refine lv_aload_n hx hb d_Ma_visibleCell_9 rfl (lv_at hl 0 rfl) ?_
    refine va_get (D := G.1) (ci := 3) (v := .int v3) (C := R_Ma) (T := T_Ma) (N := 8) hx hb hg in_Ma hown hK hP 0 rfl rfl 4 (by decide) (hg _ mw_250) (fun _ h9 => h9) rfl d_Ma_visibleCell_10 ?_
    refine lv_iconst (v := 3) hx hb d_Ma_visibleCell_13 (by decide) ?_
    refine lv_iadd hx hb d_Ma_visibleCell_14 ?_
    refine lv_icmp_ge (tgt := 22) hx hb d_Ma_visibleCell_15 rfl (fun hc15 => ?_) (fun hc15 => ?_)
    · skip
      refine lv_iconst (v := 0) hx hb d_Ma_visibleCell_22 (by decide) ?_
      refine lv_istore_n (lv' := [(2, .int 0), (0, .ref h0), (1, .int k)]) hx hb d_Ma_visibleCell_23 rfl hl (by decide) rfl (fun ls hl => ?_)
      refine lv_iload_n hx hb d_Ma_visibleCell_24 rfl (lv_at hl 2 rfl) ?_
      refine lv_aload_n hx hb d_Ma_visibleCell_25 rfl (lv_at hl 1 rfl) ?_
      refine va_get (D := G.1) (ci := 3) (v := .int v4) (C := R_Ma) (T := T_Ma) (N := 8) hx hb hg in_Ma hown hK hP 0 rfl rfl 5 (by decide) (hg _ mw_251) (fun _ h9 => h9) rfl d_Ma_visibleCell_26 ?_
      refine lv_icmp_le (tgt := 36) hx hb d_Ma_visibleCell_29 rfl (fun hc29 => ?_) (fun hc29 => ?_)
      · skip
        refine lv_aload_n hx hb d_Ma_visibleCell_36 rfl (lv_at hl 1 rfl) ?_
        refine lv_iload_n hx hb d_Ma_visibleCell_37 rfl (lv_at hl 2 rfl) ?_
        have hPc := hP.sub (ws' := [(h0, .inr (3, [.ref x1, .ref x2, .int v1, .int v2, .int v3, .int v4, .int v5, .int (nI oc)])), (x1, .inl (G.2 0, 200, .inl (f))), (x2, .inl (G.2 0, 8, .inl (g)))]) [0, 1, 2] rfl
        have hDc := hD.sub (ws' := [(h0, .inr (3, [.ref x1, .ref x2, .int v1, .int v2, .int v3, .int v4, .int v5, .int (nI oc)])), (x1, .inl (G.2 0, 200, .inl (f))), (x2, .inl (G.2 0, 8, .inl (g)))]) [0, 1, 2] (by decide) rfl
        refine vp_callSi (va_Run.run (va_runV (As := [.int k]) (rest := []) ⟨hx, hb, hml, hown, hts⟩ (g_Ma_at l G _ h0 x1 x2 f g v1 v2 v3 v4 v5 oc k) (cwV 1 hts (nn_gV mw_368 mw_365 mw_367 mw_2 mw_93) rfl rfl rfl (by decide +kernel) ⟨Nat.le_of_ble_eq_true rfl, Nat.le_of_ble_eq_true rfl⟩) (nn_preV (va_recv hK hP rfl (q0 := 0) rfl) hPc hDc hK hN) rfl rfl hl.1 rfl (lv_room (Nat.le_of_ble_eq_true rfl)) d_Ma_visibleCell_38 ⟨(Nat.le_of_ble_eq_true rfl), (Nat.le_of_ble_eq_true rfl)⟩)) (fun r2 er2 => ?_)
        refine lv_goto (tgt := 45) hx hb d_Ma_visibleCell_41 rfl ?_
        exact W.iret (v := r2) hx hb hr (fun t ht hW => ⟨r2, rfl, trivial, ht⟩) (fun q h => by cases h) d_Ma_visibleCell_45
      · skip
        refine lv_iload_n hx hb d_Ma_visibleCell_32 rfl (lv_at hl 0 rfl) ?_
        refine lv_if_eq (tgt := 44) hx hb d_Ma_visibleCell_33 rfl (fun _ => ?_) (fun h => absurd (by decide) h)
        refine lv_iconst (v := 0) hx hb d_Ma_visibleCell_44 (by decide) ?_
        exact W.iret (v := 0) hx hb hr (fun t ht hW => ⟨0, rfl, trivial, ht⟩) (fun q h => by cases h) d_Ma_visibleCell_45
    · skip
      refine lv_iconst (v := 1) hx hb d_Ma_visibleCell_18 (by decide) ?_
      refine lv_goto (tgt := 23) hx hb d_Ma_visibleCell_19 rfl ?_
      refine lv_istore_n (lv' := [(2, .int 1), (0, .ref h0), (1, .int k)]) hx hb d_Ma_visibleCell_23 rfl hl (by decide) rfl (fun ls hl => ?_)
      refine lv_iload_n hx hb d_Ma_visibleCell_24 rfl (lv_at hl 2 rfl) ?_
      refine lv_aload_n hx hb d_Ma_visibleCell_25 rfl (lv_at hl 1 rfl) ?_
      refine va_get (D := G.1) (ci := 3) (v := .int v4) (C := R_Ma) (T := T_Ma) (N := 8) hx hb hg in_Ma hown hK hP 0 rfl rfl 5 (by decide) (hg _ mw_251) (fun _ h9 => h9) rfl d_Ma_visibleCell_26 ?_
      refine lv_icmp_le (tgt := 36) hx hb d_Ma_visibleCell_29 rfl (fun hc29 => ?_) (fun hc29 => ?_)
      · skip
        refine lv_aload_n hx hb d_Ma_visibleCell_36 rfl (lv_at hl 1 rfl) ?_
        refine lv_iload_n hx hb d_Ma_visibleCell_37 rfl (lv_at hl 2 rfl) ?_
        have hPc := hP.sub (ws' := [(h0, .inr (3, [.ref x1, .ref x2, .int v1, .int v2, .int v3, .int v4, .int v5, .int (nI oc)])), (x1, .inl (G.2 0, 200, .inl (f))), (x2, .inl (G.2 0, 8, .inl (g)))]) [0, 1, 2] rfl
        have hDc := hD.sub (ws' := [(h0, .inr (3, [.ref x1, .ref x2, .int v1, .int v2, .int v3, .int v4, .int v5, .int (nI oc)])), (x1, .inl (G.2 0, 200, .inl (f))), (x2, .inl (G.2 0, 8, .inl (g)))]) [0, 1, 2] (by decide) rfl
        refine vp_callSi (va_Run.run (va_runV (As := [.int k]) (rest := []) ⟨hx, hb, hml, hown, hts⟩ (g_Ma_at l G _ h0 x1 x2 f g v1 v2 v3 v4 v5 oc k) (cwV 1 hts (nn_gV mw_368 mw_365 mw_367 mw_2 mw_93) rfl rfl rfl (by decide +kernel) ⟨Nat.le_of_ble_eq_true rfl, Nat.le_of_ble_eq_true rfl⟩) (nn_preV (va_recv hK hP rfl (q0 := 0) rfl) hPc hDc hK hN) rfl rfl hl.1 rfl (lv_room (Nat.le_of_ble_eq_true rfl)) d_Ma_visibleCell_38 ⟨(Nat.le_of_ble_eq_true rfl), (Nat.le_of_ble_eq_true rfl)⟩)) (fun r3 er3 => ?_)
        refine lv_goto (tgt := 45) hx hb d_Ma_visibleCell_41 rfl ?_
        exact W.iret (v := r3) hx hb hr (fun t ht hW => ⟨r3, rfl, trivial, ht⟩) (fun q h => by cases h) d_Ma_visibleCell_45
      · skip
        refine lv_iload_n hx hb d_Ma_visibleCell_32 rfl (lv_at hl 0 rfl) ?_
        refine lv_if_eq (tgt := 44) hx hb d_Ma_visibleCell_33 rfl (fun h => absurd h (by decide)) (fun _ => ?_)
        refine lv_aload_n hx hb d_Ma_visibleCell_36 rfl (lv_at hl 1 rfl) ?_
        refine lv_iload_n hx hb d_Ma_visibleCell_37 rfl (lv_at hl 2 rfl) ?_
        have hPc := hP.sub (ws' := [(h0, .inr (3, [.ref x1, .ref x2, .int v1, .int v2, .int v3, .int v4, .int v5, .int (nI oc)])), (x1, .inl (G.2 0, 200, .inl (f))), (x2, .inl (G.2 0, 8, .inl (g)))]) [0, 1, 2] rfl
        have hDc := hD.sub (ws' := [(h0, .inr (3, [.ref x1, .ref x2, .int v1, .int v2, .int v3, .int v4, .int v5, .int (nI oc)])), (x1, .inl (G.2 0, 200, .inl (f))), (x2, .inl (G.2 0, 8, .inl (g)))]) [0, 1, 2] (by decide) rfl
        refine vp_callSi (va_Run.run (va_runV (As := [.int k]) (rest := []) ⟨hx, hb, hml, hown, hts⟩ (g_Ma_at l G _ h0 x1 x2 f g v1 v2 v3 v4 v5 oc k) (cwV 1 hts (nn_gV mw_368 mw_365 mw_367 mw_2 mw_93) rfl rfl rfl (by decide +kernel) ⟨Nat.le_of_ble_eq_true rfl, Nat.le_of_ble_eq_true rfl⟩) (nn_preV (va_recv hK hP rfl (q0 := 0) rfl) hPc hDc hK hN) rfl rfl hl.1 rfl (lv_room (Nat.le_of_ble_eq_true rfl)) d_Ma_visibleCell_38 ⟨(Nat.le_of_ble_eq_true rfl), (Nat.le_of_ble_eq_true rfl)⟩)) (fun r4 er4 => ?_)
        refine lv_goto (tgt := 45) hx hb d_Ma_visibleCell_41 rfl ?_
        exact W.iret (v := r4) hx hb hr (fun t ht hW => ⟨r4, rfl, trivial, ht⟩) (fun q h => by cases h) d_Ma_visibleCell_45

theorem d_Ar_fill_0 : decode b_Ar_fill 0 = .ok (.iconst 0, 1) := by decide +kernel
theorem d_Ar_fill_1 : decode b_Ar_fill 1 = .ok (.istore_n 2, 1) := by decide +kernel
theorem d_Ar_fill_2 : decode b_Ar_fill 2 = .ok (.aload_n 0, 1) := by decide +kernel
theorem d_Ar_fill_3 : decode b_Ar_fill 3 = .ok (.arraylength, 1) := by decide +kernel
theorem d_Ar_fill_4 : decode b_Ar_fill 4 = .ok (.istore_n 3, 1) := by decide +kernel
theorem d_Ar_fill_5 : decode b_Ar_fill 5 = .ok (.iload_n 2, 1) := by decide +kernel
theorem d_Ar_fill_6 : decode b_Ar_fill 6 = .ok (.iload_n 3, 1) := by decide +kernel
theorem d_Ar_fill_7 : decode b_Ar_fill 7 = .ok (.if_icmp .ge 13, 3) := by decide +kernel
theorem d_Ar_fill_10 : decode b_Ar_fill 10 = .ok (.aload_n 0, 1) := by decide +kernel
theorem d_Ar_fill_11 : decode b_Ar_fill 11 = .ok (.iload_n 2, 1) := by decide +kernel
theorem d_Ar_fill_12 : decode b_Ar_fill 12 = .ok (.iload_n 1, 1) := by decide +kernel
theorem d_Ar_fill_13 : decode b_Ar_fill 13 = .ok (.iastore, 1) := by decide +kernel
theorem d_Ar_fill_14 : decode b_Ar_fill 14 = .ok (.iinc 2 1, 3) := by decide +kernel
theorem d_Ar_fill_17 : decode b_Ar_fill 17 = .ok (.goto (-12), 3) := by decide +kernel
theorem d_Ar_fill_20 : decode b_Ar_fill 20 = .ok (.return_, 1) := by decide +kernel

set_option maxHeartbeats 4000000 in
set_option maxRecDepth 100000 in
theorem g_Ar_fill (l : Launch) (G : nn_G) (sz : Nat) (x1 : Nat) (f : Nat → Int32) (k : Int32) : Met l y_Ar_fill w_Ar_fill ({ frames := 0, cells := 0, slots := 0, locals := 0 }) (nn_P G [.ref x1, .int k] [(x1, .inl (G.2 0, 200, .inl (f)))] sz) (va_Qv (fun u : Nat → Int32 => True) (fun u t => va_P G.1 nn_cls [(x1, .inl (G.2 0, 200, .inl (u)))] t.heap ∧ va_D (va_A [(x1, .inl (G.2 0, 200, .inl (f)))] sz) [(x1, .inl (G.2 0, 200, .inl (u)))]) (va_A [(x1, .inl (G.2 0, 200, .inl (f)))] sz)) 0 0 (va_A [(x1, .inl (G.2 0, 200, .inl (f)))] sz) := by
  refine Met.ofW (cc := b_Ar_fill) (maxL := 4) (ret := none) (by decide) rfl ?_
  intro p e s m args below meth c s₁ B hml hv
  obtain ⟨rfl, hsz, hP, hK, hD0, hN⟩ := hv
  have hx := B.exec
  have hb := B.bytes
  have hr := B.returns
  have hts := atoms_spec (ws := w_Ar_fill) B.pre
  have hg : ∀ w ∈ nn_gw, w.before _ s = true := fun w h => hts w (List.mem_cons_of_mem _ h)
  have hown : s.vm.findClass R_Ar = some m.cls := findClass_of_methodNamed B.named
  have hlocks := B.notSynchronized
  subst hsz
  have hD := hD0.self (sz := s.heap.size)
  generalize hAe : va_A [(x1, .inl (G.2 0, 200, .inl (f)))] s.heap.size = A at hD ⊢
  have hA : ∀ q : Nat, s.heap.size ≤ q → A q := fun q h => by rw [← hAe]; exact Or.inr h
  have hS : va_S A s.heap s.heap [] := va_S.rf
  have hP : va_P G.1 nn_cls [(x1, .inl (G.2 0, 200, .inl (f)))] s.heap := hP
  have hl := lv_entry ([.ref x1, .int k]) (n := 4) (Nat.le_of_ble_eq_true rfl)
  rw [lg_entry_eq]
  generalize (lg_sl ([.ref x1, .int k]) ++ List.replicate (4 - (lg_sl ([.ref x1, .int k])).length) Slot.unset).toArray = ls at hl ⊢
  have hl : lv_has ls 4 [(0, .ref x1), (1, .int k)] := hl
  refine lv_iconst (v := 0) hx hb d_Ar_fill_0 (by decide) ?_
  refine lv_istore_n (lv' := [(2, .int 0), (0, .ref x1), (1, .int k)]) hx hb d_Ar_fill_1 rfl hl (by decide) rfl (fun ls hl => ?_)
  refine lv_aload_n hx hb d_Ar_fill_2 rfl (lv_at hl 1 rfl) ?_
  refine va_alen (v := 200) hx hb hK hP 0 0 rfl rfl rfl d_Ar_fill_3 ?_
  refine lv_istore_n (lv' := [(3, .int 200), (2, .int 0), (0, .ref x1), (1, .int k)]) hx hb d_Ar_fill_4 rfl hl (by decide) rfl (fun ls hl => ?_)
  have hl := lv_sub (l' := [(2, .int 0), (3, .int 200), (0, .ref x1), (1, .int k)]) hl [1, 0, 2, 3] rfl
  have hP := hP.sub (ws' := [(x1, .inl (G.2 0, 200, .inl (f)))]) [0] rfl
  have hD := hD.sub (ws' := [(x1, .inl (G.2 0, 200, .inl (f)))]) [0] (by decide) rfl
  suffices loop : ∀ (j : Nat) (i : Nat) (f1 : Nat → Int32) (ls : Array Slot) (H : Heap) (locs : List Loc), i + j = 200 → lv_has ls 4 [(2, .int (nI i)), (3, .int 200), (0, .ref x1), (1, .int k)] → va_P G.1 nn_cls [(x1, .inl (G.2 0, 200, .inl (f1)))] H → va_D A [(x1, .inl (G.2 0, 200, .inl (f1)))] → va_S A s.heap H locs → W p l e (headSpec w_Ar_fill ({ frames := 0, cells := 0, slots := 0, locals := 0 })).room s m [.ref x1, .int k].toArray below meth c H locs 0 0 (MQ below (va_Qv (fun u : Nat → Int32 => True) (fun u t => va_P G.1 nn_cls [(x1, .inl (G.2 0, 200, .inl (u)))] t.heap ∧ va_D A [(x1, .inl (G.2 0, 200, .inl (u)))]) A) [.ref x1, .int k].toArray s 0 0 A) (F0 m 5 ls []) by
    exact loop 200 0 _ ls _ _ (by omega) hl hP hD hS
  intro j
  induction j with
  | zero =>
    intro i f1 ls H locs hi hl hP hD hS
    refine lv_iload_n hx hb d_Ar_fill_5 rfl (lv_at hl 0 rfl) ?_
    refine lv_iload_n hx hb d_Ar_fill_6 rfl (lv_at hl 1 rfl) ?_
    refine lv_icmp_ge (tgt := 20) hx hb d_Ar_fill_7 rfl (fun _ => ?_) (fun h => absurd (nI_le (a := 200) (by omega) (by omega)) h)
    refine W.widen (k := 0) (n := 0) (Nat.le_of_ble_eq_true rfl) (Nat.le_of_ble_eq_true rfl) ?_
    have hP9 := hP.sub (ws' := [(x1, .inl (G.2 0, 200, .inl (f1)))]) [0] rfl
    have hD9 := hD.sub (ws' := [(x1, .inl (G.2 0, 200, .inl (f1)))]) [0] (by decide) rfl
    exact W.vret hx hb hr (fun t ht hW => ⟨⟨f1, rfl, trivial, ⟨by rw [ht]; exact hP9, hD9⟩⟩, hS.F ht⟩) hS.2.2 d_Ar_fill_20
  | succ j ih =>
    intro i f1 ls H locs hi hl hP hD hS
    refine lv_iload_n hx hb d_Ar_fill_5 rfl (lv_at hl 0 rfl) ?_
    refine lv_iload_n hx hb d_Ar_fill_6 rfl (lv_at hl 1 rfl) ?_
    refine lv_icmp_ge (tgt := 20) hx hb d_Ar_fill_7 rfl (fun h => absurd h (nI_ge (b := 200) (by omega) (by decide))) (fun _ => ?_)
    refine lv_aload_n hx hb d_Ar_fill_10 rfl (lv_at hl 2 rfl) ?_
    refine lv_iload_n hx hb d_Ar_fill_11 rfl (lv_at hl 0 rfl) ?_
    refine lv_iload_n hx hb d_Ar_fill_12 rfl (lv_at hl 3 rfl) ?_
    refine va_iast hx hb hK hP hD hS 0 0 rfl rfl (vp_in_nI (by omega) (by decide)) d_Ar_fill_13 (fun H locs hP hD hS => ?_)
    have hP : va_P G.1 nn_cls [(x1, .inl (G.2 0, 200, .inl (upd (f1) (nI i).toNatClampNeg k)))] H := hP
    have hD : va_D A [(x1, .inl (G.2 0, 200, .inl (upd (f1) (nI i).toNatClampNeg k)))] := hD
    refine lv_iinc (k := 0) (v := nI (i + 1)) (lv' := [(2, .int (nI (i + 1))), (3, .int 200), (0, .ref x1), (1, .int k)]) hx hb d_Ar_fill_14 hl rfl ((nI_succ i).symm) (by decide) rfl (fun ls hl => ?_)
    refine lv_goto (tgt := 5) hx hb d_Ar_fill_17 rfl ?_
    have hl := lv_sub (l' := [(2, .int (nI (i + 1))), (3, .int 200), (0, .ref x1), (1, .int k)]) hl [0, 1, 2, 3] rfl
    have hP := hP.sub (ws' := [(x1, .inl (G.2 0, 200, .inl (upd (f1) (nI i).toNatClampNeg k)))]) [0] rfl
    have hD := hD.sub (ws' := [(x1, .inl (G.2 0, 200, .inl (upd (f1) (nI i).toNatClampNeg k)))]) [0] (by decide) rfl
    exact ih (i + 1) _ ls H locs (by omega) hl hP hD hS

theorem mw_108 : (.initialized R_Ar : Cond) ∈ nn_gw := nn_at 108 (by decide +kernel) (by decide +kernel)
theorem mw_346 : (.methodLink R_Ma 37 y_Ar_fill : Cond) ∈ nn_gw := nn_at 346 (by decide +kernel) (by decide +kernel)
theorem mw_347 : (.static y_Ar_fill : Cond) ∈ nn_gw := nn_at 347 (by decide +kernel) (by decide +kernel)
theorem mw_348 : (.code y_Ar_fill b_Ar_fill 4 none : Cond) ∈ nn_gw := nn_at 348 (by decide +kernel) (by decide +kernel)
theorem d_Ma_clear_0 : decode b_Ma_clear 0 = .ok (.aload_n 0, 1) := by decide +kernel
theorem d_Ma_clear_1 : decode b_Ma_clear 1 = .ok (.getfield 11, 3) := by decide +kernel
theorem d_Ma_clear_4 : decode b_Ma_clear 4 = .ok (.iconst 0, 1) := by decide +kernel
theorem d_Ma_clear_5 : decode b_Ma_clear 5 = .ok (.invokestatic 37, 3) := by decide +kernel
theorem d_Ma_clear_8 : decode b_Ma_clear 8 = .ok (.aload_n 0, 1) := by decide +kernel
theorem d_Ma_clear_9 : decode b_Ma_clear 9 = .ok (.iconst 0, 1) := by decide +kernel
theorem d_Ma_clear_10 : decode b_Ma_clear 10 = .ok (.putfield 18, 3) := by decide +kernel
theorem d_Ma_clear_13 : decode b_Ma_clear 13 = .ok (.aload_n 0, 1) := by decide +kernel
theorem d_Ma_clear_14 : decode b_Ma_clear 14 = .ok (.iconst 0, 1) := by decide +kernel
theorem d_Ma_clear_15 : decode b_Ma_clear 15 = .ok (.putfield 22, 3) := by decide +kernel
theorem d_Ma_clear_18 : decode b_Ma_clear 18 = .ok (.aload_n 0, 1) := by decide +kernel
theorem d_Ma_clear_19 : decode b_Ma_clear 19 = .ok (.iconst 0, 1) := by decide +kernel
theorem d_Ma_clear_20 : decode b_Ma_clear 20 = .ok (.putfield 25, 3) := by decide +kernel
theorem d_Ma_clear_23 : decode b_Ma_clear 23 = .ok (.aload_n 0, 1) := by decide +kernel
theorem d_Ma_clear_24 : decode b_Ma_clear 24 = .ok (.iconst (-1), 1) := by decide +kernel
theorem d_Ma_clear_25 : decode b_Ma_clear 25 = .ok (.putfield 28, 3) := by decide +kernel
theorem d_Ma_clear_28 : decode b_Ma_clear 28 = .ok (.aload_n 0, 1) := by decide +kernel
theorem d_Ma_clear_29 : decode b_Ma_clear 29 = .ok (.iconst 0, 1) := by decide +kernel
theorem d_Ma_clear_30 : decode b_Ma_clear 30 = .ok (.putfield 31, 3) := by decide +kernel
theorem d_Ma_clear_33 : decode b_Ma_clear 33 = .ok (.aload_n 0, 1) := by decide +kernel
theorem d_Ma_clear_34 : decode b_Ma_clear 34 = .ok (.iconst 0, 1) := by decide +kernel
theorem d_Ma_clear_35 : decode b_Ma_clear 35 = .ok (.putfield 34, 3) := by decide +kernel
theorem d_Ma_clear_38 : decode b_Ma_clear 38 = .ok (.return_, 1) := by decide +kernel

set_option maxHeartbeats 4000000 in
set_option maxRecDepth 100000 in
theorem g_Ma_clear (l : Launch) (G : nn_G) (sz : Nat) (h0 x1 x2 : Nat) (f g : Nat → Int32) (v1 v2 v3 v4 v5 : Int32) (oc : Nat) : Met l y_Ma_clear w_Ma_clear ({ frames := 1, cells := 0, slots := 0, locals := 23 }) (nn_P G [.ref h0] [(h0, .inr (3, [.ref x1, .ref x2, .int v1, .int v2, .int v3, .int v4, .int v5, .int (nI oc)])), (x1, .inl (G.2 0, 200, .inl (f))), (x2, .inl (G.2 0, 8, .inl (g)))] sz) (va_Qv (fun u : (Nat → Int32) × (Nat → Int32) × Int32 × Int32 × Int32 × Int32 × Int32 × Nat => u.2.2.2.2.2.2.2 = 0) (fun u t => va_P G.1 nn_cls [(h0, .inr (3, [.ref x1, .ref x2, .int u.2.2.1, .int u.2.2.2.1, .int u.2.2.2.2.1, .int u.2.2.2.2.2.1, .int u.2.2.2.2.2.2.1, .int (nI u.2.2.2.2.2.2.2)])), (x1, .inl (G.2 0, 200, .inl (u.1))), (x2, .inl (G.2 0, 8, .inl (u.2.1)))] t.heap ∧ va_D (va_A [(h0, .inr (3, [.ref x1, .ref x2, .int v1, .int v2, .int v3, .int v4, .int v5, .int (nI oc)])), (x1, .inl (G.2 0, 200, .inl (f))), (x2, .inl (G.2 0, 8, .inl (g)))] sz) [(h0, .inr (3, [.ref x1, .ref x2, .int u.2.2.1, .int u.2.2.2.1, .int u.2.2.2.2.1, .int u.2.2.2.2.2.1, .int u.2.2.2.2.2.2.1, .int (nI u.2.2.2.2.2.2.2)])), (x1, .inl (G.2 0, 200, .inl (u.1))), (x2, .inl (G.2 0, 8, .inl (u.2.1)))]) (va_A [(h0, .inr (3, [.ref x1, .ref x2, .int v1, .int v2, .int v3, .int v4, .int v5, .int (nI oc)])), (x1, .inl (G.2 0, 200, .inl (f))), (x2, .inl (G.2 0, 8, .inl (g)))] sz)) 0 0 (va_A [(h0, .inr (3, [.ref x1, .ref x2, .int v1, .int v2, .int v3, .int v4, .int v5, .int (nI oc)])), (x1, .inl (G.2 0, 200, .inl (f))), (x2, .inl (G.2 0, 8, .inl (g)))] sz) := by
  refine Met.ofW (cc := b_Ma_clear) (maxL := 1) (ret := none) (by decide) rfl ?_
  intro p e s m args below meth c s₁ B hml hv
  obtain ⟨rfl, hsz, hP, hK, hD0, hN⟩ := hv
  have hx := B.exec
  have hb := B.bytes
  have hr := B.returns
  have hts := atoms_spec (ws := w_Ma_clear) B.pre
  have hg : ∀ w ∈ nn_gw, w.before _ s = true := fun w h => hts w (List.mem_cons_of_mem _ h)
  have hown : s.vm.findClass R_Ma = some m.cls := findClass_of_methodNamed B.named
  have hlocks := B.notSynchronized
  subst hsz
  have hD := hD0.self (sz := s.heap.size)
  generalize hAe : va_A [(h0, .inr (3, [.ref x1, .ref x2, .int v1, .int v2, .int v3, .int v4, .int v5, .int (nI oc)])), (x1, .inl (G.2 0, 200, .inl (f))), (x2, .inl (G.2 0, 8, .inl (g)))] s.heap.size = A at hD ⊢
  have hA : ∀ q : Nat, s.heap.size ≤ q → A q := fun q h => by rw [← hAe]; exact Or.inr h
  have hS : va_S A s.heap s.heap [] := va_S.rf
  have hP : va_P G.1 nn_cls [(h0, .inr (3, [.ref x1, .ref x2, .int v1, .int v2, .int v3, .int v4, .int v5, .int (nI oc)])), (x1, .inl (G.2 0, 200, .inl (f))), (x2, .inl (G.2 0, 8, .inl (g)))] s.heap := hP
  have hl := lv_entry ([.ref h0]) (n := 1) (Nat.le_of_ble_eq_true rfl)
  rw [lg_entry_eq]
  generalize (lg_sl ([.ref h0]) ++ List.replicate (1 - (lg_sl ([.ref h0])).length) Slot.unset).toArray = ls at hl ⊢
  have hl : lv_has ls 1 [(0, .ref h0)] := hl
  refine lv_aload_n hx hb d_Ma_clear_0 rfl (lv_at hl 0 rfl) ?_
  refine va_get (D := G.1) (ci := 3) (v := .ref x1) (C := R_Ma) (T := T_Ma) (N := 8) hx hb hg in_Ma hown hK hP 0 rfl rfl 0 (by decide) (hg _ mw_246) (fun _ h9 => h9) rfl d_Ma_clear_1 ?_
  refine lv_iconst (v := 0) hx hb d_Ma_clear_4 (by decide) ?_
  have hPc := hP.sub (ws' := [(x1, .inl (G.2 0, 200, .inl (f)))]) [1] rfl
  have hDc := hD.sub (ws' := [(x1, .inl (G.2 0, 200, .inl (f)))]) [1] (by decide) rfl
  have hFc := va_free (wc := [(x1, .inl (G.2 0, 200, .inl (f)))]) hD hS hA [1] rfl
  refine va_callv (va_runS (As := [.ref x1, .int 0]) (rest := []) ⟨hx, hb, hml, hown, hts⟩ (g_Ar_fill l G _ x1 f 0) (va_cwS 2 hts (nn_gS mw_348 mw_346 mw_347 mw_108) rfl rfl rfl (by decide +kernel) ⟨Nat.le_of_ble_eq_true rfl, Nat.le_of_ble_eq_true rfl⟩) (nn_preS hPc hDc hK hN) rfl rfl hl.1 rfl (lv_room (Nat.le_of_ble_eq_true rfl)) d_Ma_clear_5 ⟨(Nat.le_of_ble_eq_true rfl), (Nat.le_of_ble_eq_true rfl)⟩) hS (fun q _ h => hFc q h) hFc (fun u1 t H locs ht hvm hw hB hz1 hk1 hS => ?_)
  obtain ⟨hP1, hD1⟩ := hB
  rw [ht] at hP1
  obtain ⟨hP, hD⟩ := va_join (wr := [(h0, .inr (3, [.ref x1, .ref x2, .int v1, .int v2, .int v3, .int v4, .int v5, .int (nI oc)])), (x2, .inl (G.2 0, 8, .inl (g)))]) (w1 := [(x1, .inl (G.2 0, 200, .inl (u1)))]) hP hD [1] [0, 2] rfl rfl (by decide) (by decide) hk1 hFc hP1 hD1
  have hP : va_P G.1 nn_cls [(h0, .inr (3, [.ref x1, .ref x2, .int v1, .int v2, .int v3, .int v4, .int v5, .int (nI oc)])), (x2, .inl (G.2 0, 8, .inl (g))), (x1, .inl (G.2 0, 200, .inl (u1)))] H := hP
  have hD : va_D A [(h0, .inr (3, [.ref x1, .ref x2, .int v1, .int v2, .int v3, .int v4, .int v5, .int (nI oc)])), (x2, .inl (G.2 0, 8, .inl (g))), (x1, .inl (G.2 0, 200, .inl (u1)))] := hD
  refine W.widen (k := 0) (n := 0) (Nat.le_of_ble_eq_true rfl) (Nat.le_of_ble_eq_true rfl) ?_
  refine lv_aload_n hx hb d_Ma_clear_8 rfl (lv_at hl 0 rfl) ?_
  refine lv_iconst (v := 0) hx hb d_Ma_clear_9 (by decide) ?_
  refine va_put (D := G.1) (ci := 3) (v := .int 0) (ty := .int) (C := R_Ma) (T := T_Ma) (N := 8) hx hb hg in_Ma t_Ma ok_Ma nm_Ma hown hK hP hD hS 0 rfl rfl 2 (by decide) (hg _ mw_248) (fun _ h9 => h9) rfl (by decide +kernel) rfl rfl (Nat.le_of_ble_eq_true rfl) d_Ma_clear_10 (fun H locs hP hD hS => ?_)
  have hP : va_P G.1 nn_cls [(h0, .inr (3, [.ref x1, .ref x2, .int 0, .int v2, .int v3, .int v4, .int v5, .int (nI oc)])), (x2, .inl (G.2 0, 8, .inl (g))), (x1, .inl (G.2 0, 200, .inl (u1)))] H := hP
  have hD : va_D A [(h0, .inr (3, [.ref x1, .ref x2, .int 0, .int v2, .int v3, .int v4, .int v5, .int (nI oc)])), (x2, .inl (G.2 0, 8, .inl (g))), (x1, .inl (G.2 0, 200, .inl (u1)))] := hD
  refine lv_aload_n hx hb d_Ma_clear_13 rfl (lv_at hl 0 rfl) ?_
  refine lv_iconst (v := 0) hx hb d_Ma_clear_14 (by decide) ?_
  refine va_put (D := G.1) (ci := 3) (v := .int 0) (ty := .int) (C := R_Ma) (T := T_Ma) (N := 8) hx hb hg in_Ma t_Ma ok_Ma nm_Ma hown hK hP hD hS 0 rfl rfl 3 (by decide) (hg _ mw_249) (fun _ h9 => h9) rfl (by decide +kernel) rfl rfl (Nat.le_of_ble_eq_true rfl) d_Ma_clear_15 (fun H locs hP hD hS => ?_)
  have hP : va_P G.1 nn_cls [(h0, .inr (3, [.ref x1, .ref x2, .int 0, .int 0, .int v3, .int v4, .int v5, .int (nI oc)])), (x2, .inl (G.2 0, 8, .inl (g))), (x1, .inl (G.2 0, 200, .inl (u1)))] H := hP
  have hD : va_D A [(h0, .inr (3, [.ref x1, .ref x2, .int 0, .int 0, .int v3, .int v4, .int v5, .int (nI oc)])), (x2, .inl (G.2 0, 8, .inl (g))), (x1, .inl (G.2 0, 200, .inl (u1)))] := hD
  refine lv_aload_n hx hb d_Ma_clear_18 rfl (lv_at hl 0 rfl) ?_
  refine lv_iconst (v := 0) hx hb d_Ma_clear_19 (by decide) ?_
  refine va_put (D := G.1) (ci := 3) (v := .int 0) (ty := .int) (C := R_Ma) (T := T_Ma) (N := 8) hx hb hg in_Ma t_Ma ok_Ma nm_Ma hown hK hP hD hS 0 rfl rfl 4 (by decide) (hg _ mw_250) (fun _ h9 => h9) rfl (by decide +kernel) rfl rfl (Nat.le_of_ble_eq_true rfl) d_Ma_clear_20 (fun H locs hP hD hS => ?_)
  have hP : va_P G.1 nn_cls [(h0, .inr (3, [.ref x1, .ref x2, .int 0, .int 0, .int 0, .int v4, .int v5, .int (nI oc)])), (x2, .inl (G.2 0, 8, .inl (g))), (x1, .inl (G.2 0, 200, .inl (u1)))] H := hP
  have hD : va_D A [(h0, .inr (3, [.ref x1, .ref x2, .int 0, .int 0, .int 0, .int v4, .int v5, .int (nI oc)])), (x2, .inl (G.2 0, 8, .inl (g))), (x1, .inl (G.2 0, 200, .inl (u1)))] := hD
  refine lv_aload_n hx hb d_Ma_clear_23 rfl (lv_at hl 0 rfl) ?_
  refine lv_iconst (v := (-1)) hx hb d_Ma_clear_24 (by decide) ?_
  refine va_put (D := G.1) (ci := 3) (v := .int (-1)) (ty := .int) (C := R_Ma) (T := T_Ma) (N := 8) hx hb hg in_Ma t_Ma ok_Ma nm_Ma hown hK hP hD hS 0 rfl rfl 5 (by decide) (hg _ mw_251) (fun _ h9 => h9) rfl (by decide +kernel) rfl rfl (Nat.le_of_ble_eq_true rfl) d_Ma_clear_25 (fun H locs hP hD hS => ?_)
  have hP : va_P G.1 nn_cls [(h0, .inr (3, [.ref x1, .ref x2, .int 0, .int 0, .int 0, .int (-1), .int v5, .int (nI oc)])), (x2, .inl (G.2 0, 8, .inl (g))), (x1, .inl (G.2 0, 200, .inl (u1)))] H := hP
  have hD : va_D A [(h0, .inr (3, [.ref x1, .ref x2, .int 0, .int 0, .int 0, .int (-1), .int v5, .int (nI oc)])), (x2, .inl (G.2 0, 8, .inl (g))), (x1, .inl (G.2 0, 200, .inl (u1)))] := hD
  refine lv_aload_n hx hb d_Ma_clear_28 rfl (lv_at hl 0 rfl) ?_
  refine lv_iconst (v := 0) hx hb d_Ma_clear_29 (by decide) ?_
  refine va_put (D := G.1) (ci := 3) (v := .int 0) (ty := .int) (C := R_Ma) (T := T_Ma) (N := 8) hx hb hg in_Ma t_Ma ok_Ma nm_Ma hown hK hP hD hS 0 rfl rfl 6 (by decide) (hg _ mw_252) (fun _ h9 => h9) rfl (by decide +kernel) rfl rfl (Nat.le_of_ble_eq_true rfl) d_Ma_clear_30 (fun H locs hP hD hS => ?_)
  have hP : va_P G.1 nn_cls [(h0, .inr (3, [.ref x1, .ref x2, .int 0, .int 0, .int 0, .int (-1), .int 0, .int (nI oc)])), (x2, .inl (G.2 0, 8, .inl (g))), (x1, .inl (G.2 0, 200, .inl (u1)))] H := hP
  have hD : va_D A [(h0, .inr (3, [.ref x1, .ref x2, .int 0, .int 0, .int 0, .int (-1), .int 0, .int (nI oc)])), (x2, .inl (G.2 0, 8, .inl (g))), (x1, .inl (G.2 0, 200, .inl (u1)))] := hD
  refine lv_aload_n hx hb d_Ma_clear_33 rfl (lv_at hl 0 rfl) ?_
  refine lv_iconst (v := 0) hx hb d_Ma_clear_34 (by decide) ?_
  refine va_put (D := G.1) (ci := 3) (v := .int 0) (ty := .int) (C := R_Ma) (T := T_Ma) (N := 8) hx hb hg in_Ma t_Ma ok_Ma nm_Ma hown hK hP hD hS 0 rfl rfl 7 (by decide) (hg _ mw_253) (fun _ h9 => h9) rfl (by decide +kernel) rfl rfl (Nat.le_of_ble_eq_true rfl) d_Ma_clear_35 (fun H locs hP hD hS => ?_)
  have hP : va_P G.1 nn_cls [(h0, .inr (3, [.ref x1, .ref x2, .int 0, .int 0, .int 0, .int (-1), .int 0, .int 0])), (x2, .inl (G.2 0, 8, .inl (g))), (x1, .inl (G.2 0, 200, .inl (u1)))] H := hP
  have hD : va_D A [(h0, .inr (3, [.ref x1, .ref x2, .int 0, .int 0, .int 0, .int (-1), .int 0, .int 0])), (x2, .inl (G.2 0, 8, .inl (g))), (x1, .inl (G.2 0, 200, .inl (u1)))] := hD
  refine W.widen (k := 0) (n := 0) (Nat.le_of_ble_eq_true rfl) (Nat.le_of_ble_eq_true rfl) ?_
  have hP9 := hP.sub (ws' := [(h0, .inr (3, [.ref x1, .ref x2, .int 0, .int 0, .int 0, .int (-1), .int 0, .int 0])), (x1, .inl (G.2 0, 200, .inl (u1))), (x2, .inl (G.2 0, 8, .inl (g)))]) [0, 2, 1] rfl
  have hD9 := hD.sub (ws' := [(h0, .inr (3, [.ref x1, .ref x2, .int 0, .int 0, .int 0, .int (-1), .int 0, .int 0])), (x1, .inl (G.2 0, 200, .inl (u1))), (x2, .inl (G.2 0, 8, .inl (g)))]) [0, 2, 1] (by decide) rfl
  exact W.vret hx hb hr (fun t ht hW => ⟨⟨(u1, g, 0, 0, 0, (-1), 0, 0), rfl, rfl, ⟨by rw [ht]; exact hP9, hD9⟩⟩, hS.F ht⟩) hS.2.2 d_Ma_clear_38

theorem mw_41 : (.selects R_Ma y_Ma_storeElement y_Ma_storeElement : Cond) ∈ nn_gw := nn_at 41 (by decide +kernel) (by decide +kernel)
theorem mw_42 : (.selects R_Ma y_Ma_enter y_Ma_enter : Cond) ∈ nn_gw := nn_at 42 (by decide +kernel) (by decide +kernel)
theorem mw_43 : (.selects R_Ma y_Ma_reserve y_Ma_reserve : Cond) ∈ nn_gw := nn_at 43 (by decide +kernel) (by decide +kernel)
theorem mw_44 : (.selects R_Ma y_Ma_operate y_Ma_operate : Cond) ∈ nn_gw := nn_at 44 (by decide +kernel) (by decide +kernel)
theorem mw_861 : (.methodLink R_Ma 87 y_Ma_storeElement : Cond) ∈ nn_gw := nn_at 861 (by decide +kernel) (by decide +kernel)
theorem mw_863 : (.instanceMethod y_Ma_storeElement : Cond) ∈ nn_gw := nn_at 863 (by decide +kernel) (by decide +kernel)
theorem mw_864 : (.code y_Ma_storeElement b_Ma_storeElement 4 none : Cond) ∈ nn_gw := nn_at 864 (by decide +kernel) (by decide +kernel)
theorem mw_865 : (.methodLink R_Ma 90 y_Ma_enter : Cond) ∈ nn_gw := nn_at 865 (by decide +kernel) (by decide +kernel)
theorem mw_867 : (.instanceMethod y_Ma_enter : Cond) ∈ nn_gw := nn_at 867 (by decide +kernel) (by decide +kernel)
theorem mw_868 : (.code y_Ma_enter b_Ma_enter 4 none : Cond) ∈ nn_gw := nn_at 868 (by decide +kernel) (by decide +kernel)
theorem mw_869 : (.methodLink R_Ma 93 y_Ma_reserve : Cond) ∈ nn_gw := nn_at 869 (by decide +kernel) (by decide +kernel)
theorem mw_871 : (.instanceMethod y_Ma_reserve : Cond) ∈ nn_gw := nn_at 871 (by decide +kernel) (by decide +kernel)
theorem mw_872 : (.code y_Ma_reserve b_Ma_reserve 3 none : Cond) ∈ nn_gw := nn_at 872 (by decide +kernel) (by decide +kernel)
theorem mw_873 : (.methodLink R_Ma 96 y_Ma_operate : Cond) ∈ nn_gw := nn_at 873 (by decide +kernel) (by decide +kernel)
theorem mw_875 : (.instanceMethod y_Ma_operate : Cond) ∈ nn_gw := nn_at 875 (by decide +kernel) (by decide +kernel)
theorem mw_876 : (.code y_Ma_operate b_Ma_operate 5 none : Cond) ∈ nn_gw := nn_at 876 (by decide +kernel) (by decide +kernel)
theorem d_Ma_perform_0 : decode b_Ma_perform 0 = .ok (.iload_n 1, 1) := by decide +kernel
theorem d_Ma_perform_1 : decode b_Ma_perform 1 = .ok (.tableswitch 185 0 9 #[55, 63, 81, 99, 122, 136, 145, 153, 161, 176], 55) := by decide +kernel
theorem d_Ma_perform_56 : decode b_Ma_perform 56 = .ok (.aload_n 0, 1) := by decide +kernel
theorem d_Ma_perform_57 : decode b_Ma_perform 57 = .ok (.iload_n 3, 1) := by decide +kernel
theorem d_Ma_perform_58 : decode b_Ma_perform 58 = .ok (.invokevirtual 75, 3) := by decide +kernel
theorem d_Ma_perform_61 : decode b_Ma_perform 61 = .ok (.goto 125, 3) := by decide +kernel
theorem d_Ma_perform_64 : decode b_Ma_perform 64 = .ok (.aload_n 0, 1) := by decide +kernel
theorem d_Ma_perform_65 : decode b_Ma_perform 65 = .ok (.aload_n 0, 1) := by decide +kernel
theorem d_Ma_perform_66 : decode b_Ma_perform 66 = .ok (.aload_n 0, 1) := by decide +kernel
theorem d_Ma_perform_67 : decode b_Ma_perform 67 = .ok (.iload_n 2, 1) := by decide +kernel
theorem d_Ma_perform_68 : decode b_Ma_perform 68 = .ok (.invokevirtual 50, 3) := by decide +kernel
theorem d_Ma_perform_71 : decode b_Ma_perform 71 = .ok (.iload_n 3, 1) := by decide +kernel
theorem d_Ma_perform_72 : decode b_Ma_perform 72 = .ok (.iadd, 1) := by decide +kernel
theorem d_Ma_perform_73 : decode b_Ma_perform 73 = .ok (.invokevirtual 46, 3) := by decide +kernel
theorem d_Ma_perform_76 : decode b_Ma_perform 76 = .ok (.invokevirtual 75, 3) := by decide +kernel
theorem d_Ma_perform_79 : decode b_Ma_perform 79 = .ok (.goto 107, 3) := by decide +kernel
theorem d_Ma_perform_82 : decode b_Ma_perform 82 = .ok (.aload_n 0, 1) := by decide +kernel
theorem d_Ma_perform_83 : decode b_Ma_perform 83 = .ok (.aload_n 0, 1) := by decide +kernel
theorem d_Ma_perform_84 : decode b_Ma_perform 84 = .ok (.iload_n 2, 1) := by decide +kernel
theorem d_Ma_perform_85 : decode b_Ma_perform 85 = .ok (.invokevirtual 50, 3) := by decide +kernel
theorem d_Ma_perform_88 : decode b_Ma_perform 88 = .ok (.iload_n 3, 1) := by decide +kernel
theorem d_Ma_perform_89 : decode b_Ma_perform 89 = .ok (.iadd, 1) := by decide +kernel
theorem d_Ma_perform_90 : decode b_Ma_perform 90 = .ok (.aload_n 0, 1) := by decide +kernel
theorem d_Ma_perform_91 : decode b_Ma_perform 91 = .ok (.invokevirtual 79, 3) := by decide +kernel
theorem d_Ma_perform_94 : decode b_Ma_perform 94 = .ok (.invokevirtual 83, 3) := by decide +kernel
theorem d_Ma_perform_97 : decode b_Ma_perform 97 = .ok (.goto 89, 3) := by decide +kernel
theorem d_Ma_perform_100 : decode b_Ma_perform 100 = .ok (.aload_n 0, 1) := by decide +kernel
theorem d_Ma_perform_101 : decode b_Ma_perform 101 = .ok (.aload_n 0, 1) := by decide +kernel
theorem d_Ma_perform_102 : decode b_Ma_perform 102 = .ok (.aload_n 0, 1) := by decide +kernel
theorem d_Ma_perform_103 : decode b_Ma_perform 103 = .ok (.iload_n 2, 1) := by decide +kernel
theorem d_Ma_perform_104 : decode b_Ma_perform 104 = .ok (.invokevirtual 50, 3) := by decide +kernel
theorem d_Ma_perform_107 : decode b_Ma_perform 107 = .ok (.iload_n 3, 1) := by decide +kernel
theorem d_Ma_perform_108 : decode b_Ma_perform 108 = .ok (.iadd, 1) := by decide +kernel
theorem d_Ma_perform_109 : decode b_Ma_perform 109 = .ok (.aload_n 0, 1) := by decide +kernel
theorem d_Ma_perform_110 : decode b_Ma_perform 110 = .ok (.invokevirtual 79, 3) := by decide +kernel
theorem d_Ma_perform_113 : decode b_Ma_perform 113 = .ok (.iadd, 1) := by decide +kernel
theorem d_Ma_perform_114 : decode b_Ma_perform 114 = .ok (.invokevirtual 46, 3) := by decide +kernel
theorem d_Ma_perform_117 : decode b_Ma_perform 117 = .ok (.invokevirtual 75, 3) := by decide +kernel
theorem d_Ma_perform_120 : decode b_Ma_perform 120 = .ok (.goto 66, 3) := by decide +kernel
theorem d_Ma_perform_123 : decode b_Ma_perform 123 = .ok (.aload_n 0, 1) := by decide +kernel
theorem d_Ma_perform_124 : decode b_Ma_perform 124 = .ok (.aload_n 0, 1) := by decide +kernel
theorem d_Ma_perform_125 : decode b_Ma_perform 125 = .ok (.iload_n 2, 1) := by decide +kernel
theorem d_Ma_perform_126 : decode b_Ma_perform 126 = .ok (.invokevirtual 50, 3) := by decide +kernel
theorem d_Ma_perform_129 : decode b_Ma_perform 129 = .ok (.iload_n 3, 1) := by decide +kernel
theorem d_Ma_perform_130 : decode b_Ma_perform 130 = .ok (.iadd, 1) := by decide +kernel
theorem d_Ma_perform_131 : decode b_Ma_perform 131 = .ok (.invokevirtual 87, 3) := by decide +kernel
theorem d_Ma_perform_134 : decode b_Ma_perform 134 = .ok (.goto 52, 3) := by decide +kernel
theorem d_Ma_perform_137 : decode b_Ma_perform 137 = .ok (.aload_n 0, 1) := by decide +kernel
theorem d_Ma_perform_138 : decode b_Ma_perform 138 = .ok (.iload_n 2, 1) := by decide +kernel
theorem d_Ma_perform_139 : decode b_Ma_perform 139 = .ok (.iload_n 3, 1) := by decide +kernel
theorem d_Ma_perform_140 : decode b_Ma_perform 140 = .ok (.invokevirtual 90, 3) := by decide +kernel
theorem d_Ma_perform_143 : decode b_Ma_perform 143 = .ok (.goto 43, 3) := by decide +kernel
theorem d_Ma_perform_146 : decode b_Ma_perform 146 = .ok (.aload_n 0, 1) := by decide +kernel
theorem d_Ma_perform_147 : decode b_Ma_perform 147 = .ok (.iload_n 3, 1) := by decide +kernel
theorem d_Ma_perform_148 : decode b_Ma_perform 148 = .ok (.invokevirtual 93, 3) := by decide +kernel
theorem d_Ma_perform_151 : decode b_Ma_perform 151 = .ok (.goto 35, 3) := by decide +kernel
theorem d_Ma_perform_154 : decode b_Ma_perform 154 = .ok (.aload_n 0, 1) := by decide +kernel
theorem d_Ma_perform_155 : decode b_Ma_perform 155 = .ok (.iload_n 3, 1) := by decide +kernel
theorem d_Ma_perform_156 : decode b_Ma_perform 156 = .ok (.putfield 22, 3) := by decide +kernel
theorem d_Ma_perform_159 : decode b_Ma_perform 159 = .ok (.goto 27, 3) := by decide +kernel
theorem d_Ma_perform_162 : decode b_Ma_perform 162 = .ok (.aload_n 0, 1) := by decide +kernel
theorem d_Ma_perform_163 : decode b_Ma_perform 163 = .ok (.invokevirtual 79, 3) := by decide +kernel
theorem d_Ma_perform_166 : decode b_Ma_perform 166 = .ok (.ifCond .ne 20, 3) := by decide +kernel
theorem d_Ma_perform_169 : decode b_Ma_perform 169 = .ok (.aload_n 0, 1) := by decide +kernel
theorem d_Ma_perform_170 : decode b_Ma_perform 170 = .ok (.iload_n 3, 1) := by decide +kernel
theorem d_Ma_perform_171 : decode b_Ma_perform 171 = .ok (.putfield 22, 3) := by decide +kernel
theorem d_Ma_perform_174 : decode b_Ma_perform 174 = .ok (.goto 12, 3) := by decide +kernel
theorem d_Ma_perform_177 : decode b_Ma_perform 177 = .ok (.aload_n 0, 1) := by decide +kernel
theorem d_Ma_perform_178 : decode b_Ma_perform 178 = .ok (.iload_n 3, 1) := by decide +kernel
theorem d_Ma_perform_179 : decode b_Ma_perform 179 = .ok (.iload_n 2, 1) := by decide +kernel
theorem d_Ma_perform_180 : decode b_Ma_perform 180 = .ok (.invokevirtual 96, 3) := by decide +kernel
theorem d_Ma_perform_183 : decode b_Ma_perform 183 = .ok (.goto 3, 3) := by decide +kernel
theorem d_Ma_perform_186 : decode b_Ma_perform 186 = .ok (.return_, 1) := by decide +kernel

set_option maxHeartbeats 4000000 in
set_option maxRecDepth 100000 in
theorem g_Ma_perform (l : Launch) (G : nn_G) (sz : Nat) (h0 x1 x2 : Nat) (f g : Nat → Int32) (v1 v2 v3 v4 v5 : Int32) (oc : Nat) (k i j : Int32) (hoc : oc < 1000000) : Met l y_Ma_perform w_Ma_perform ({ frames := 3, cells := 0, slots := 0, locals := 67 }) (nn_P G [.ref h0, .int k, .int i, .int j] [(h0, .inr (3, [.ref x1, .ref x2, .int v1, .int v2, .int v3, .int v4, .int v5, .int (nI oc)])), (x1, .inl (G.2 0, 200, .inl (f))), (x2, .inl (G.2 0, 8, .inl (g)))] sz) (va_Qv (fun u : (Nat → Int32) × (Nat → Int32) × Int32 × Int32 × Int32 × Int32 × Int32 × Nat => u.2.2.2.2.2.2.2 ≤ oc + 1) (fun u t => va_P G.1 nn_cls [(h0, .inr (3, [.ref x1, .ref x2, .int u.2.2.1, .int u.2.2.2.1, .int u.2.2.2.2.1, .int u.2.2.2.2.2.1, .int u.2.2.2.2.2.2.1, .int (nI u.2.2.2.2.2.2.2)])), (x1, .inl (G.2 0, 200, .inl (u.1))), (x2, .inl (G.2 0, 8, .inl (u.2.1)))] t.heap ∧ va_D (va_A [(h0, .inr (3, [.ref x1, .ref x2, .int v1, .int v2, .int v3, .int v4, .int v5, .int (nI oc)])), (x1, .inl (G.2 0, 200, .inl (f))), (x2, .inl (G.2 0, 8, .inl (g)))] sz) [(h0, .inr (3, [.ref x1, .ref x2, .int u.2.2.1, .int u.2.2.2.1, .int u.2.2.2.2.1, .int u.2.2.2.2.2.1, .int u.2.2.2.2.2.2.1, .int (nI u.2.2.2.2.2.2.2)])), (x1, .inl (G.2 0, 200, .inl (u.1))), (x2, .inl (G.2 0, 8, .inl (u.2.1)))]) (va_A [(h0, .inr (3, [.ref x1, .ref x2, .int v1, .int v2, .int v3, .int v4, .int v5, .int (nI oc)])), (x1, .inl (G.2 0, 200, .inl (f))), (x2, .inl (G.2 0, 8, .inl (g)))] sz)) 0 0 (va_A [(h0, .inr (3, [.ref x1, .ref x2, .int v1, .int v2, .int v3, .int v4, .int v5, .int (nI oc)])), (x1, .inl (G.2 0, 200, .inl (f))), (x2, .inl (G.2 0, 8, .inl (g)))] sz) := by
  refine Met.ofW (cc := b_Ma_perform) (maxL := 4) (ret := none) (by decide) rfl ?_
  intro p e s m args below meth c s₁ B hml hv
  obtain ⟨rfl, hsz, hP, hK, hD0, hN⟩ := hv
  have hx := B.exec
  have hb := B.bytes
  have hr := B.returns
  have hts := atoms_spec (ws := w_Ma_perform) B.pre
  have hg : ∀ w ∈ nn_gw, w.before _ s = true := fun w h => hts w (List.mem_cons_of_mem _ h)
  have hown : s.vm.findClass R_Ma = some m.cls := findClass_of_methodNamed B.named
  have hlocks := B.notSynchronized
  subst hsz
  have hD := hD0.self (sz := s.heap.size)
  generalize hAe : va_A [(h0, .inr (3, [.ref x1, .ref x2, .int v1, .int v2, .int v3, .int v4, .int v5, .int (nI oc)])), (x1, .inl (G.2 0, 200, .inl (f))), (x2, .inl (G.2 0, 8, .inl (g)))] s.heap.size = A at hD ⊢
  have hA : ∀ q : Nat, s.heap.size ≤ q → A q := fun q h => by rw [← hAe]; exact Or.inr h
  have hS : va_S A s.heap s.heap [] := va_S.rf
  have hP : va_P G.1 nn_cls [(h0, .inr (3, [.ref x1, .ref x2, .int v1, .int v2, .int v3, .int v4, .int v5, .int (nI oc)])), (x1, .inl (G.2 0, 200, .inl (f))), (x2, .inl (G.2 0, 8, .inl (g)))] s.heap := hP
  have hl := lv_entry ([.ref h0, .int k, .int i, .int j]) (n := 4) (Nat.le_of_ble_eq_true rfl)
  rw [lg_entry_eq]
  generalize (lg_sl ([.ref h0, .int k, .int i, .int j]) ++ List.replicate (4 - (lg_sl ([.ref h0, .int k, .int i, .int j])).length) Slot.unset).toArray = ls at hl ⊢
  have hl : lv_has ls 4 [(0, .ref h0), (1, .int k), (2, .int i), (3, .int j)] := hl
  refine lv_iload_n hx hb d_Ma_perform_0 rfl (lv_at hl 1 rfl) ?_
  by_cases hk1_0 : k = 0
  · skip
    refine lv_tableIn (off := 55) (tgt := 56) hx hb d_Ma_perform_1 (by rw [hk1_0]; decide) (by rw [hk1_0]; decide) (by rw [hk1_0]; decide) rfl ?_
    refine lv_aload_n hx hb d_Ma_perform_56 rfl (lv_at hl 0 rfl) ?_
    refine lv_iload_n hx hb d_Ma_perform_57 rfl (lv_at hl 3 rfl) ?_
    have hPc := hP.sub (ws' := [(h0, .inr (3, [.ref x1, .ref x2, .int v1, .int v2, .int v3, .int v4, .int v5, .int (nI oc)])), (x1, .inl (G.2 0, 200, .inl (f))), (x2, .inl (G.2 0, 8, .inl (g)))]) [0, 1, 2] rfl
    have hDc := hD.sub (ws' := [(h0, .inr (3, [.ref x1, .ref x2, .int v1, .int v2, .int v3, .int v4, .int v5, .int (nI oc)])), (x1, .inl (G.2 0, 200, .inl (f))), (x2, .inl (G.2 0, 8, .inl (g)))]) [0, 1, 2] (by decide) rfl
    have hFc := va_free (wc := [(h0, .inr (3, [.ref x1, .ref x2, .int v1, .int v2, .int v3, .int v4, .int v5, .int (nI oc)])), (x1, .inl (G.2 0, 200, .inl (f))), (x2, .inl (G.2 0, 8, .inl (g)))]) hD hS hA [0, 1, 2] rfl
    refine va_callv (va_runV (As := [.int j]) (rest := []) ⟨hx, hb, hml, hown, hts⟩ (g_Ma_push l G _ h0 x1 x2 f g v1 v2 v3 v4 v5 oc j ) (cwV 1 hts (nn_gV mw_852 mw_849 mw_851 mw_38 mw_93) rfl rfl rfl (by decide +kernel) ⟨Nat.le_of_ble_eq_true rfl, Nat.le_of_ble_eq_true rfl⟩) (nn_preV (va_recv hK hP rfl (q0 := 0) rfl) hPc hDc hK hN) rfl rfl hl.1 rfl (lv_room (Nat.le_of_ble_eq_true rfl)) d_Ma_perform_58 ⟨(Nat.le_of_ble_eq_true rfl), (Nat.le_of_ble_eq_true rfl)⟩) hS (fun q _ h => hFc q h) hFc (fun u1 t H locs ht hvm hw hB hz1 hk1 hS => ?_)
    obtain ⟨w2, w3, w4, w5, w6, w7, w8, w9⟩ := u1
    dsimp only at hB hw
    have hw9 : oc = w9 := hw.symm
    subst hw9
    obtain ⟨hP1, hD1⟩ := hB
    rw [ht] at hP1
    obtain ⟨hP, hD⟩ := va_join (wr := []) (w1 := [(h0, .inr (3, [.ref x1, .ref x2, .int w4, .int w5, .int w6, .int w7, .int w8, .int (nI oc)])), (x1, .inl (G.2 0, 200, .inl (w2))), (x2, .inl (G.2 0, 8, .inl (w3)))]) hP hD [0, 1, 2] [] rfl rfl (by decide) (by decide) hk1 hFc hP1 hD1
    have hP : va_P G.1 nn_cls [(h0, .inr (3, [.ref x1, .ref x2, .int w4, .int w5, .int w6, .int w7, .int w8, .int (nI oc)])), (x1, .inl (G.2 0, 200, .inl (w2))), (x2, .inl (G.2 0, 8, .inl (w3)))] H := hP
    have hD : va_D A [(h0, .inr (3, [.ref x1, .ref x2, .int w4, .int w5, .int w6, .int w7, .int w8, .int (nI oc)])), (x1, .inl (G.2 0, 200, .inl (w2))), (x2, .inl (G.2 0, 8, .inl (w3)))] := hD
    refine W.widen (k := 0) (n := 0) (Nat.le_of_ble_eq_true rfl) (Nat.le_of_ble_eq_true rfl) ?_
    refine lv_goto (tgt := 186) hx hb d_Ma_perform_61 rfl ?_
    refine W.widen (k := 0) (n := 0) (Nat.le_of_ble_eq_true rfl) (Nat.le_of_ble_eq_true rfl) ?_
    have hP9 := hP.sub (ws' := [(h0, .inr (3, [.ref x1, .ref x2, .int w4, .int w5, .int w6, .int w7, .int w8, .int (nI oc)])), (x1, .inl (G.2 0, 200, .inl (w2))), (x2, .inl (G.2 0, 8, .inl (w3)))]) [0, 1, 2] rfl
    have hD9 := hD.sub (ws' := [(h0, .inr (3, [.ref x1, .ref x2, .int w4, .int w5, .int w6, .int w7, .int w8, .int (nI oc)])), (x1, .inl (G.2 0, 200, .inl (w2))), (x2, .inl (G.2 0, 8, .inl (w3)))]) [0, 1, 2] (by decide) rfl
    exact W.vret hx hb hr (fun t ht hW => ⟨⟨(w2, w3, w4, w5, w6, w7, w8, oc), rfl, (show oc ≤ oc + 1 by omega), ⟨by rw [ht]; exact hP9, hD9⟩⟩, hS.F ht⟩) hS.2.2 d_Ma_perform_186
  by_cases hk1_1 : k = 1
  · skip
    refine lv_tableIn (off := 63) (tgt := 64) hx hb d_Ma_perform_1 (by rw [hk1_1]; decide) (by rw [hk1_1]; decide) (by rw [hk1_1]; decide) rfl ?_
    refine lv_aload_n hx hb d_Ma_perform_64 rfl (lv_at hl 0 rfl) ?_
    refine lv_aload_n hx hb d_Ma_perform_65 rfl (lv_at hl 0 rfl) ?_
    refine lv_aload_n hx hb d_Ma_perform_66 rfl (lv_at hl 0 rfl) ?_
    refine lv_iload_n hx hb d_Ma_perform_67 rfl (lv_at hl 2 rfl) ?_
    have hPc := hP.sub (ws' := [(h0, .inr (3, [.ref x1, .ref x2, .int v1, .int v2, .int v3, .int v4, .int v5, .int (nI oc)])), (x1, .inl (G.2 0, 200, .inl (f))), (x2, .inl (G.2 0, 8, .inl (g)))]) [0, 1, 2] rfl
    have hDc := hD.sub (ws' := [(h0, .inr (3, [.ref x1, .ref x2, .int v1, .int v2, .int v3, .int v4, .int v5, .int (nI oc)])), (x1, .inl (G.2 0, 200, .inl (f))), (x2, .inl (G.2 0, 8, .inl (g)))]) [0, 1, 2] (by decide) rfl
    refine vp_callSi (va_Run.run (va_runV (As := [.int i]) (rest := [.ref h0, .ref h0]) ⟨hx, hb, hml, hown, hts⟩ (g_Ma_linked l G _ h0 x1 x2 f g v1 v2 v3 v4 v5 oc i) (cwV 1 hts (nn_gV mw_388 mw_385 mw_387 mw_3 mw_93) rfl rfl rfl (by decide +kernel) ⟨Nat.le_of_ble_eq_true rfl, Nat.le_of_ble_eq_true rfl⟩) (nn_preV (va_recv hK hP rfl (q0 := 0) rfl) hPc hDc hK hN) rfl rfl hl.1 rfl (lv_room (Nat.le_of_ble_eq_true rfl)) d_Ma_perform_68 ⟨(Nat.le_of_ble_eq_true rfl), (Nat.le_of_ble_eq_true rfl)⟩)) (fun r10 er10 => ?_)
    refine lv_iload_n hx hb d_Ma_perform_71 rfl (lv_at hl 3 rfl) ?_
    refine lv_iadd hx hb d_Ma_perform_72 ?_
    have hPc := hP.sub (ws' := [(h0, .inr (3, [.ref x1, .ref x2, .int v1, .int v2, .int v3, .int v4, .int v5, .int (nI oc)])), (x1, .inl (G.2 0, 200, .inl (f))), (x2, .inl (G.2 0, 8, .inl (g)))]) [0, 1, 2] rfl
    have hDc := hD.sub (ws' := [(h0, .inr (3, [.ref x1, .ref x2, .int v1, .int v2, .int v3, .int v4, .int v5, .int (nI oc)])), (x1, .inl (G.2 0, 200, .inl (f))), (x2, .inl (G.2 0, 8, .inl (g)))]) [0, 1, 2] (by decide) rfl
    refine vp_callSi (va_Run.run (va_runV (As := [.int (r10 + j)]) (rest := [.ref h0]) ⟨hx, hb, hml, hown, hts⟩ (g_Ma_at l G _ h0 x1 x2 f g v1 v2 v3 v4 v5 oc (r10 + j)) (cwV 1 hts (nn_gV mw_368 mw_365 mw_367 mw_2 mw_93) rfl rfl rfl (by decide +kernel) ⟨Nat.le_of_ble_eq_true rfl, Nat.le_of_ble_eq_true rfl⟩) (nn_preV (va_recv hK hP rfl (q0 := 0) rfl) hPc hDc hK hN) rfl rfl hl.1 rfl (lv_room (Nat.le_of_ble_eq_true rfl)) d_Ma_perform_73 ⟨(Nat.le_of_ble_eq_true rfl), (Nat.le_of_ble_eq_true rfl)⟩)) (fun r11 er11 => ?_)
    have hPc := hP.sub (ws' := [(h0, .inr (3, [.ref x1, .ref x2, .int v1, .int v2, .int v3, .int v4, .int v5, .int (nI oc)])), (x1, .inl (G.2 0, 200, .inl (f))), (x2, .inl (G.2 0, 8, .inl (g)))]) [0, 1, 2] rfl
    have hDc := hD.sub (ws' := [(h0, .inr (3, [.ref x1, .ref x2, .int v1, .int v2, .int v3, .int v4, .int v5, .int (nI oc)])), (x1, .inl (G.2 0, 200, .inl (f))), (x2, .inl (G.2 0, 8, .inl (g)))]) [0, 1, 2] (by decide) rfl
    have hFc := va_free (wc := [(h0, .inr (3, [.ref x1, .ref x2, .int v1, .int v2, .int v3, .int v4, .int v5, .int (nI oc)])), (x1, .inl (G.2 0, 200, .inl (f))), (x2, .inl (G.2 0, 8, .inl (g)))]) hD hS hA [0, 1, 2] rfl
    refine va_callv (va_runV (As := [.int r11]) (rest := []) ⟨hx, hb, hml, hown, hts⟩ (g_Ma_push l G _ h0 x1 x2 f g v1 v2 v3 v4 v5 oc r11 ) (cwV 1 hts (nn_gV mw_852 mw_849 mw_851 mw_38 mw_93) rfl rfl rfl (by decide +kernel) ⟨Nat.le_of_ble_eq_true rfl, Nat.le_of_ble_eq_true rfl⟩) (nn_preV (va_recv hK hP rfl (q0 := 0) rfl) hPc hDc hK hN) rfl rfl hl.1 rfl (lv_room (Nat.le_of_ble_eq_true rfl)) d_Ma_perform_76 ⟨(Nat.le_of_ble_eq_true rfl), (Nat.le_of_ble_eq_true rfl)⟩) hS (fun q _ h => hFc q h) hFc (fun u12 t H locs ht hvm hw hB hz1 hk1 hS => ?_)
    obtain ⟨w13, w14, w15, w16, w17, w18, w19, w20⟩ := u12
    dsimp only at hB hw
    have hw9 : oc = w20 := hw.symm
    subst hw9
    obtain ⟨hP1, hD1⟩ := hB
    rw [ht] at hP1
    obtain ⟨hP, hD⟩ := va_join (wr := []) (w1 := [(h0, .inr (3, [.ref x1, .ref x2, .int w15, .int w16, .int w17, .int w18, .int w19, .int (nI oc)])), (x1, .inl (G.2 0, 200, .inl (w13))), (x2, .inl (G.2 0, 8, .inl (w14)))]) hP hD [0, 1, 2] [] rfl rfl (by decide) (by decide) hk1 hFc hP1 hD1
    have hP : va_P G.1 nn_cls [(h0, .inr (3, [.ref x1, .ref x2, .int w15, .int w16, .int w17, .int w18, .int w19, .int (nI oc)])), (x1, .inl (G.2 0, 200, .inl (w13))), (x2, .inl (G.2 0, 8, .inl (w14)))] H := hP
    have hD : va_D A [(h0, .inr (3, [.ref x1, .ref x2, .int w15, .int w16, .int w17, .int w18, .int w19, .int (nI oc)])), (x1, .inl (G.2 0, 200, .inl (w13))), (x2, .inl (G.2 0, 8, .inl (w14)))] := hD
    refine W.widen (k := 0) (n := 0) (Nat.le_of_ble_eq_true rfl) (Nat.le_of_ble_eq_true rfl) ?_
    refine lv_goto (tgt := 186) hx hb d_Ma_perform_79 rfl ?_
    refine W.widen (k := 0) (n := 0) (Nat.le_of_ble_eq_true rfl) (Nat.le_of_ble_eq_true rfl) ?_
    have hP9 := hP.sub (ws' := [(h0, .inr (3, [.ref x1, .ref x2, .int w15, .int w16, .int w17, .int w18, .int w19, .int (nI oc)])), (x1, .inl (G.2 0, 200, .inl (w13))), (x2, .inl (G.2 0, 8, .inl (w14)))]) [0, 1, 2] rfl
    have hD9 := hD.sub (ws' := [(h0, .inr (3, [.ref x1, .ref x2, .int w15, .int w16, .int w17, .int w18, .int w19, .int (nI oc)])), (x1, .inl (G.2 0, 200, .inl (w13))), (x2, .inl (G.2 0, 8, .inl (w14)))]) [0, 1, 2] (by decide) rfl
    exact W.vret hx hb hr (fun t ht hW => ⟨⟨(w13, w14, w15, w16, w17, w18, w19, oc), rfl, (show oc ≤ oc + 1 by omega), ⟨by rw [ht]; exact hP9, hD9⟩⟩, hS.F ht⟩) hS.2.2 d_Ma_perform_186
  by_cases hk1_2 : k = 2
  · skip
    refine lv_tableIn (off := 81) (tgt := 82) hx hb d_Ma_perform_1 (by rw [hk1_2]; decide) (by rw [hk1_2]; decide) (by rw [hk1_2]; decide) rfl ?_
    refine lv_aload_n hx hb d_Ma_perform_82 rfl (lv_at hl 0 rfl) ?_
    refine lv_aload_n hx hb d_Ma_perform_83 rfl (lv_at hl 0 rfl) ?_
    refine lv_iload_n hx hb d_Ma_perform_84 rfl (lv_at hl 2 rfl) ?_
    have hPc := hP.sub (ws' := [(h0, .inr (3, [.ref x1, .ref x2, .int v1, .int v2, .int v3, .int v4, .int v5, .int (nI oc)])), (x1, .inl (G.2 0, 200, .inl (f))), (x2, .inl (G.2 0, 8, .inl (g)))]) [0, 1, 2] rfl
    have hDc := hD.sub (ws' := [(h0, .inr (3, [.ref x1, .ref x2, .int v1, .int v2, .int v3, .int v4, .int v5, .int (nI oc)])), (x1, .inl (G.2 0, 200, .inl (f))), (x2, .inl (G.2 0, 8, .inl (g)))]) [0, 1, 2] (by decide) rfl
    refine vp_callSi (va_Run.run (va_runV (As := [.int i]) (rest := [.ref h0]) ⟨hx, hb, hml, hown, hts⟩ (g_Ma_linked l G _ h0 x1 x2 f g v1 v2 v3 v4 v5 oc i) (cwV 1 hts (nn_gV mw_388 mw_385 mw_387 mw_3 mw_93) rfl rfl rfl (by decide +kernel) ⟨Nat.le_of_ble_eq_true rfl, Nat.le_of_ble_eq_true rfl⟩) (nn_preV (va_recv hK hP rfl (q0 := 0) rfl) hPc hDc hK hN) rfl rfl hl.1 rfl (lv_room (Nat.le_of_ble_eq_true rfl)) d_Ma_perform_85 ⟨(Nat.le_of_ble_eq_true rfl), (Nat.le_of_ble_eq_true rfl)⟩)) (fun r21 er21 => ?_)
    refine lv_iload_n hx hb d_Ma_perform_88 rfl (lv_at hl 3 rfl) ?_
    refine lv_iadd hx hb d_Ma_perform_89 ?_
    refine lv_aload_n hx hb d_Ma_perform_90 rfl (lv_at hl 0 rfl) ?_
    have hPc := hP.sub (ws' := [(h0, .inr (3, [.ref x1, .ref x2, .int v1, .int v2, .int v3, .int v4, .int v5, .int (nI oc)])), (x1, .inl (G.2 0, 200, .inl (f))), (x2, .inl (G.2 0, 8, .inl (g)))]) [0, 1, 2] rfl
    have hDc := hD.sub (ws' := [(h0, .inr (3, [.ref x1, .ref x2, .int v1, .int v2, .int v3, .int v4, .int v5, .int (nI oc)])), (x1, .inl (G.2 0, 200, .inl (f))), (x2, .inl (G.2 0, 8, .inl (g)))]) [0, 1, 2] (by decide) rfl
    have hFc := va_free (wc := [(h0, .inr (3, [.ref x1, .ref x2, .int v1, .int v2, .int v3, .int v4, .int v5, .int (nI oc)])), (x1, .inl (G.2 0, 200, .inl (f))), (x2, .inl (G.2 0, 8, .inl (g)))]) hD hS hA [0, 1, 2] rfl
    refine va_calli (va_runV (As := []) (rest := [.int (r21 + j), .ref h0]) ⟨hx, hb, hml, hown, hts⟩ (g_Ma_pop l G _ h0 x1 x2 f g v1 v2 v3 v4 v5 oc  ) (cwV 0 hts (nn_gV mw_860 mw_857 mw_859 mw_40 mw_93) rfl rfl rfl (by decide +kernel) ⟨Nat.le_of_ble_eq_true rfl, Nat.le_of_ble_eq_true rfl⟩) (nn_preV (va_recv hK hP rfl (q0 := 0) rfl) hPc hDc hK hN) rfl rfl hl.1 rfl (lv_room (Nat.le_of_ble_eq_true rfl)) d_Ma_perform_91 ⟨(Nat.le_of_ble_eq_true rfl), (Nat.le_of_ble_eq_true rfl)⟩) hS (fun q _ h => hFc q h) hFc (fun r23 u22 t H locs ht hvm hw hB hz1 hk1 hS => ?_)
    obtain ⟨w24, w25, w26, w27, w28, w29, w30, w31⟩ := u22
    dsimp only at hB hw
    have hw9 : oc = w31 := hw.symm
    subst hw9
    obtain ⟨hP1, hD1⟩ := hB
    rw [ht] at hP1
    obtain ⟨hP, hD⟩ := va_join (wr := []) (w1 := [(h0, .inr (3, [.ref x1, .ref x2, .int w26, .int w27, .int w28, .int w29, .int w30, .int (nI oc)])), (x1, .inl (G.2 0, 200, .inl (w24))), (x2, .inl (G.2 0, 8, .inl (w25)))]) hP hD [0, 1, 2] [] rfl rfl (by decide) (by decide) hk1 hFc hP1 hD1
    have hP : va_P G.1 nn_cls [(h0, .inr (3, [.ref x1, .ref x2, .int w26, .int w27, .int w28, .int w29, .int w30, .int (nI oc)])), (x1, .inl (G.2 0, 200, .inl (w24))), (x2, .inl (G.2 0, 8, .inl (w25)))] H := hP
    have hD : va_D A [(h0, .inr (3, [.ref x1, .ref x2, .int w26, .int w27, .int w28, .int w29, .int w30, .int (nI oc)])), (x1, .inl (G.2 0, 200, .inl (w24))), (x2, .inl (G.2 0, 8, .inl (w25)))] := hD
    refine W.widen (k := 0) (n := 0) (Nat.le_of_ble_eq_true rfl) (Nat.le_of_ble_eq_true rfl) ?_
    have hPc := hP.sub (ws' := [(h0, .inr (3, [.ref x1, .ref x2, .int w26, .int w27, .int w28, .int w29, .int w30, .int (nI oc)])), (x1, .inl (G.2 0, 200, .inl (w24))), (x2, .inl (G.2 0, 8, .inl (w25)))]) [0, 1, 2] rfl
    have hDc := hD.sub (ws' := [(h0, .inr (3, [.ref x1, .ref x2, .int w26, .int w27, .int w28, .int w29, .int w30, .int (nI oc)])), (x1, .inl (G.2 0, 200, .inl (w24))), (x2, .inl (G.2 0, 8, .inl (w25)))]) [0, 1, 2] (by decide) rfl
    have hFc := va_free (wc := [(h0, .inr (3, [.ref x1, .ref x2, .int w26, .int w27, .int w28, .int w29, .int w30, .int (nI oc)])), (x1, .inl (G.2 0, 200, .inl (w24))), (x2, .inl (G.2 0, 8, .inl (w25)))]) hD hS hA [0, 1, 2] rfl
    refine va_callv (va_runV (As := [.int (r21 + j), .int r23]) (rest := []) ⟨hx, hb, hml, hown, hts⟩ (g_Ma_put l G _ h0 x1 x2 w24 w25 w26 w27 w28 w29 w30 oc (r21 + j) r23 ) (cwV 2 hts (nn_gV mw_856 mw_853 mw_855 mw_39 mw_93) rfl rfl rfl (by decide +kernel) ⟨Nat.le_of_ble_eq_true rfl, Nat.le_of_ble_eq_true rfl⟩) (nn_preV (va_recv hK hP rfl (q0 := 0) rfl) hPc hDc hK hN) rfl rfl hl.1 rfl (lv_room (Nat.le_of_ble_eq_true rfl)) d_Ma_perform_94 ⟨(Nat.le_of_ble_eq_true rfl), (Nat.le_of_ble_eq_true rfl)⟩) hS (fun q _ h => hFc q h) hFc (fun u32 t H locs ht hvm hw hB hz1 hk1 hS => ?_)
    obtain ⟨w33, w34, w35, w36, w37, w38, w39, w40⟩ := u32
    dsimp only at hB hw
    have hw9 : oc = w40 := hw.symm
    subst hw9
    obtain ⟨hP1, hD1⟩ := hB
    rw [ht] at hP1
    obtain ⟨hP, hD⟩ := va_join (wr := []) (w1 := [(h0, .inr (3, [.ref x1, .ref x2, .int w35, .int w36, .int w37, .int w38, .int w39, .int (nI oc)])), (x1, .inl (G.2 0, 200, .inl (w33))), (x2, .inl (G.2 0, 8, .inl (w34)))]) hP hD [0, 1, 2] [] rfl rfl (by decide) (by decide) hk1 hFc hP1 hD1
    have hP : va_P G.1 nn_cls [(h0, .inr (3, [.ref x1, .ref x2, .int w35, .int w36, .int w37, .int w38, .int w39, .int (nI oc)])), (x1, .inl (G.2 0, 200, .inl (w33))), (x2, .inl (G.2 0, 8, .inl (w34)))] H := hP
    have hD : va_D A [(h0, .inr (3, [.ref x1, .ref x2, .int w35, .int w36, .int w37, .int w38, .int w39, .int (nI oc)])), (x1, .inl (G.2 0, 200, .inl (w33))), (x2, .inl (G.2 0, 8, .inl (w34)))] := hD
    refine W.widen (k := 0) (n := 0) (Nat.le_of_ble_eq_true rfl) (Nat.le_of_ble_eq_true rfl) ?_
    refine lv_goto (tgt := 186) hx hb d_Ma_perform_97 rfl ?_
    refine W.widen (k := 0) (n := 0) (Nat.le_of_ble_eq_true rfl) (Nat.le_of_ble_eq_true rfl) ?_
    have hP9 := hP.sub (ws' := [(h0, .inr (3, [.ref x1, .ref x2, .int w35, .int w36, .int w37, .int w38, .int w39, .int (nI oc)])), (x1, .inl (G.2 0, 200, .inl (w33))), (x2, .inl (G.2 0, 8, .inl (w34)))]) [0, 1, 2] rfl
    have hD9 := hD.sub (ws' := [(h0, .inr (3, [.ref x1, .ref x2, .int w35, .int w36, .int w37, .int w38, .int w39, .int (nI oc)])), (x1, .inl (G.2 0, 200, .inl (w33))), (x2, .inl (G.2 0, 8, .inl (w34)))]) [0, 1, 2] (by decide) rfl
    exact W.vret hx hb hr (fun t ht hW => ⟨⟨(w33, w34, w35, w36, w37, w38, w39, oc), rfl, (show oc ≤ oc + 1 by omega), ⟨by rw [ht]; exact hP9, hD9⟩⟩, hS.F ht⟩) hS.2.2 d_Ma_perform_186
  by_cases hk1_3 : k = 3
  · skip
    refine lv_tableIn (off := 99) (tgt := 100) hx hb d_Ma_perform_1 (by rw [hk1_3]; decide) (by rw [hk1_3]; decide) (by rw [hk1_3]; decide) rfl ?_
    refine lv_aload_n hx hb d_Ma_perform_100 rfl (lv_at hl 0 rfl) ?_
    refine lv_aload_n hx hb d_Ma_perform_101 rfl (lv_at hl 0 rfl) ?_
    refine lv_aload_n hx hb d_Ma_perform_102 rfl (lv_at hl 0 rfl) ?_
    refine lv_iload_n hx hb d_Ma_perform_103 rfl (lv_at hl 2 rfl) ?_
    have hPc := hP.sub (ws' := [(h0, .inr (3, [.ref x1, .ref x2, .int v1, .int v2, .int v3, .int v4, .int v5, .int (nI oc)])), (x1, .inl (G.2 0, 200, .inl (f))), (x2, .inl (G.2 0, 8, .inl (g)))]) [0, 1, 2] rfl
    have hDc := hD.sub (ws' := [(h0, .inr (3, [.ref x1, .ref x2, .int v1, .int v2, .int v3, .int v4, .int v5, .int (nI oc)])), (x1, .inl (G.2 0, 200, .inl (f))), (x2, .inl (G.2 0, 8, .inl (g)))]) [0, 1, 2] (by decide) rfl
    refine vp_callSi (va_Run.run (va_runV (As := [.int i]) (rest := [.ref h0, .ref h0]) ⟨hx, hb, hml, hown, hts⟩ (g_Ma_linked l G _ h0 x1 x2 f g v1 v2 v3 v4 v5 oc i) (cwV 1 hts (nn_gV mw_388 mw_385 mw_387 mw_3 mw_93) rfl rfl rfl (by decide +kernel) ⟨Nat.le_of_ble_eq_true rfl, Nat.le_of_ble_eq_true rfl⟩) (nn_preV (va_recv hK hP rfl (q0 := 0) rfl) hPc hDc hK hN) rfl rfl hl.1 rfl (lv_room (Nat.le_of_ble_eq_true rfl)) d_Ma_perform_104 ⟨(Nat.le_of_ble_eq_true rfl), (Nat.le_of_ble_eq_true rfl)⟩)) (fun r41 er41 => ?_)
    refine lv_iload_n hx hb d_Ma_perform_107 rfl (lv_at hl 3 rfl) ?_
    refine lv_iadd hx hb d_Ma_perform_108 ?_
    refine lv_aload_n hx hb d_Ma_perform_109 rfl (lv_at hl 0 rfl) ?_
    have hPc := hP.sub (ws' := [(h0, .inr (3, [.ref x1, .ref x2, .int v1, .int v2, .int v3, .int v4, .int v5, .int (nI oc)])), (x1, .inl (G.2 0, 200, .inl (f))), (x2, .inl (G.2 0, 8, .inl (g)))]) [0, 1, 2] rfl
    have hDc := hD.sub (ws' := [(h0, .inr (3, [.ref x1, .ref x2, .int v1, .int v2, .int v3, .int v4, .int v5, .int (nI oc)])), (x1, .inl (G.2 0, 200, .inl (f))), (x2, .inl (G.2 0, 8, .inl (g)))]) [0, 1, 2] (by decide) rfl
    have hFc := va_free (wc := [(h0, .inr (3, [.ref x1, .ref x2, .int v1, .int v2, .int v3, .int v4, .int v5, .int (nI oc)])), (x1, .inl (G.2 0, 200, .inl (f))), (x2, .inl (G.2 0, 8, .inl (g)))]) hD hS hA [0, 1, 2] rfl
    refine va_calli (va_runV (As := []) (rest := [.int (r41 + j), .ref h0, .ref h0]) ⟨hx, hb, hml, hown, hts⟩ (g_Ma_pop l G _ h0 x1 x2 f g v1 v2 v3 v4 v5 oc  ) (cwV 0 hts (nn_gV mw_860 mw_857 mw_859 mw_40 mw_93) rfl rfl rfl (by decide +kernel) ⟨Nat.le_of_ble_eq_true rfl, Nat.le_of_ble_eq_true rfl⟩) (nn_preV (va_recv hK hP rfl (q0 := 0) rfl) hPc hDc hK hN) rfl rfl hl.1 rfl (lv_room (Nat.le_of_ble_eq_true rfl)) d_Ma_perform_110 ⟨(Nat.le_of_ble_eq_true rfl), (Nat.le_of_ble_eq_true rfl)⟩) hS (fun q _ h => hFc q h) hFc (fun r43 u42 t H locs ht hvm hw hB hz1 hk1 hS => ?_)
    obtain ⟨w44, w45, w46, w47, w48, w49, w50, w51⟩ := u42
    dsimp only at hB hw
    have hw9 : oc = w51 := hw.symm
    subst hw9
    obtain ⟨hP1, hD1⟩ := hB
    rw [ht] at hP1
    obtain ⟨hP, hD⟩ := va_join (wr := []) (w1 := [(h0, .inr (3, [.ref x1, .ref x2, .int w46, .int w47, .int w48, .int w49, .int w50, .int (nI oc)])), (x1, .inl (G.2 0, 200, .inl (w44))), (x2, .inl (G.2 0, 8, .inl (w45)))]) hP hD [0, 1, 2] [] rfl rfl (by decide) (by decide) hk1 hFc hP1 hD1
    have hP : va_P G.1 nn_cls [(h0, .inr (3, [.ref x1, .ref x2, .int w46, .int w47, .int w48, .int w49, .int w50, .int (nI oc)])), (x1, .inl (G.2 0, 200, .inl (w44))), (x2, .inl (G.2 0, 8, .inl (w45)))] H := hP
    have hD : va_D A [(h0, .inr (3, [.ref x1, .ref x2, .int w46, .int w47, .int w48, .int w49, .int w50, .int (nI oc)])), (x1, .inl (G.2 0, 200, .inl (w44))), (x2, .inl (G.2 0, 8, .inl (w45)))] := hD
    refine W.widen (k := 0) (n := 0) (Nat.le_of_ble_eq_true rfl) (Nat.le_of_ble_eq_true rfl) ?_
    refine lv_iadd hx hb d_Ma_perform_113 ?_
    have hPc := hP.sub (ws' := [(h0, .inr (3, [.ref x1, .ref x2, .int w46, .int w47, .int w48, .int w49, .int w50, .int (nI oc)])), (x1, .inl (G.2 0, 200, .inl (w44))), (x2, .inl (G.2 0, 8, .inl (w45)))]) [0, 1, 2] rfl
    have hDc := hD.sub (ws' := [(h0, .inr (3, [.ref x1, .ref x2, .int w46, .int w47, .int w48, .int w49, .int w50, .int (nI oc)])), (x1, .inl (G.2 0, 200, .inl (w44))), (x2, .inl (G.2 0, 8, .inl (w45)))]) [0, 1, 2] (by decide) rfl
    refine vp_callSi (va_Run.run (va_runV (As := [.int ((r41 + j) + r43)]) (rest := [.ref h0]) ⟨hx, hb, hml, hown, hts⟩ (g_Ma_at l G _ h0 x1 x2 w44 w45 w46 w47 w48 w49 w50 oc ((r41 + j) + r43)) (cwV 1 hts (nn_gV mw_368 mw_365 mw_367 mw_2 mw_93) rfl rfl rfl (by decide +kernel) ⟨Nat.le_of_ble_eq_true rfl, Nat.le_of_ble_eq_true rfl⟩) (nn_preV (va_recv hK hP rfl (q0 := 0) rfl) hPc hDc hK hN) rfl rfl hl.1 rfl (lv_room (Nat.le_of_ble_eq_true rfl)) d_Ma_perform_114 ⟨(Nat.le_of_ble_eq_true rfl), (Nat.le_of_ble_eq_true rfl)⟩)) (fun r52 er52 => ?_)
    have hPc := hP.sub (ws' := [(h0, .inr (3, [.ref x1, .ref x2, .int w46, .int w47, .int w48, .int w49, .int w50, .int (nI oc)])), (x1, .inl (G.2 0, 200, .inl (w44))), (x2, .inl (G.2 0, 8, .inl (w45)))]) [0, 1, 2] rfl
    have hDc := hD.sub (ws' := [(h0, .inr (3, [.ref x1, .ref x2, .int w46, .int w47, .int w48, .int w49, .int w50, .int (nI oc)])), (x1, .inl (G.2 0, 200, .inl (w44))), (x2, .inl (G.2 0, 8, .inl (w45)))]) [0, 1, 2] (by decide) rfl
    have hFc := va_free (wc := [(h0, .inr (3, [.ref x1, .ref x2, .int w46, .int w47, .int w48, .int w49, .int w50, .int (nI oc)])), (x1, .inl (G.2 0, 200, .inl (w44))), (x2, .inl (G.2 0, 8, .inl (w45)))]) hD hS hA [0, 1, 2] rfl
    refine va_callv (va_runV (As := [.int r52]) (rest := []) ⟨hx, hb, hml, hown, hts⟩ (g_Ma_push l G _ h0 x1 x2 w44 w45 w46 w47 w48 w49 w50 oc r52 ) (cwV 1 hts (nn_gV mw_852 mw_849 mw_851 mw_38 mw_93) rfl rfl rfl (by decide +kernel) ⟨Nat.le_of_ble_eq_true rfl, Nat.le_of_ble_eq_true rfl⟩) (nn_preV (va_recv hK hP rfl (q0 := 0) rfl) hPc hDc hK hN) rfl rfl hl.1 rfl (lv_room (Nat.le_of_ble_eq_true rfl)) d_Ma_perform_117 ⟨(Nat.le_of_ble_eq_true rfl), (Nat.le_of_ble_eq_true rfl)⟩) hS (fun q _ h => hFc q h) hFc (fun u53 t H locs ht hvm hw hB hz1 hk1 hS => ?_)
    obtain ⟨w54, w55, w56, w57, w58, w59, w60, w61⟩ := u53
    dsimp only at hB hw
    have hw9 : oc = w61 := hw.symm
    subst hw9
    obtain ⟨hP1, hD1⟩ := hB
    rw [ht] at hP1
    obtain ⟨hP, hD⟩ := va_join (wr := []) (w1 := [(h0, .inr (3, [.ref x1, .ref x2, .int w56, .int w57, .int w58, .int w59, .int w60, .int (nI oc)])), (x1, .inl (G.2 0, 200, .inl (w54))), (x2, .inl (G.2 0, 8, .inl (w55)))]) hP hD [0, 1, 2] [] rfl rfl (by decide) (by decide) hk1 hFc hP1 hD1
    have hP : va_P G.1 nn_cls [(h0, .inr (3, [.ref x1, .ref x2, .int w56, .int w57, .int w58, .int w59, .int w60, .int (nI oc)])), (x1, .inl (G.2 0, 200, .inl (w54))), (x2, .inl (G.2 0, 8, .inl (w55)))] H := hP
    have hD : va_D A [(h0, .inr (3, [.ref x1, .ref x2, .int w56, .int w57, .int w58, .int w59, .int w60, .int (nI oc)])), (x1, .inl (G.2 0, 200, .inl (w54))), (x2, .inl (G.2 0, 8, .inl (w55)))] := hD
    refine W.widen (k := 0) (n := 0) (Nat.le_of_ble_eq_true rfl) (Nat.le_of_ble_eq_true rfl) ?_
    refine lv_goto (tgt := 186) hx hb d_Ma_perform_120 rfl ?_
    refine W.widen (k := 0) (n := 0) (Nat.le_of_ble_eq_true rfl) (Nat.le_of_ble_eq_true rfl) ?_
    have hP9 := hP.sub (ws' := [(h0, .inr (3, [.ref x1, .ref x2, .int w56, .int w57, .int w58, .int w59, .int w60, .int (nI oc)])), (x1, .inl (G.2 0, 200, .inl (w54))), (x2, .inl (G.2 0, 8, .inl (w55)))]) [0, 1, 2] rfl
    have hD9 := hD.sub (ws' := [(h0, .inr (3, [.ref x1, .ref x2, .int w56, .int w57, .int w58, .int w59, .int w60, .int (nI oc)])), (x1, .inl (G.2 0, 200, .inl (w54))), (x2, .inl (G.2 0, 8, .inl (w55)))]) [0, 1, 2] (by decide) rfl
    exact W.vret hx hb hr (fun t ht hW => ⟨⟨(w54, w55, w56, w57, w58, w59, w60, oc), rfl, (show oc ≤ oc + 1 by omega), ⟨by rw [ht]; exact hP9, hD9⟩⟩, hS.F ht⟩) hS.2.2 d_Ma_perform_186
  by_cases hk1_4 : k = 4
  · skip
    refine lv_tableIn (off := 122) (tgt := 123) hx hb d_Ma_perform_1 (by rw [hk1_4]; decide) (by rw [hk1_4]; decide) (by rw [hk1_4]; decide) rfl ?_
    refine lv_aload_n hx hb d_Ma_perform_123 rfl (lv_at hl 0 rfl) ?_
    refine lv_aload_n hx hb d_Ma_perform_124 rfl (lv_at hl 0 rfl) ?_
    refine lv_iload_n hx hb d_Ma_perform_125 rfl (lv_at hl 2 rfl) ?_
    have hPc := hP.sub (ws' := [(h0, .inr (3, [.ref x1, .ref x2, .int v1, .int v2, .int v3, .int v4, .int v5, .int (nI oc)])), (x1, .inl (G.2 0, 200, .inl (f))), (x2, .inl (G.2 0, 8, .inl (g)))]) [0, 1, 2] rfl
    have hDc := hD.sub (ws' := [(h0, .inr (3, [.ref x1, .ref x2, .int v1, .int v2, .int v3, .int v4, .int v5, .int (nI oc)])), (x1, .inl (G.2 0, 200, .inl (f))), (x2, .inl (G.2 0, 8, .inl (g)))]) [0, 1, 2] (by decide) rfl
    refine vp_callSi (va_Run.run (va_runV (As := [.int i]) (rest := [.ref h0]) ⟨hx, hb, hml, hown, hts⟩ (g_Ma_linked l G _ h0 x1 x2 f g v1 v2 v3 v4 v5 oc i) (cwV 1 hts (nn_gV mw_388 mw_385 mw_387 mw_3 mw_93) rfl rfl rfl (by decide +kernel) ⟨Nat.le_of_ble_eq_true rfl, Nat.le_of_ble_eq_true rfl⟩) (nn_preV (va_recv hK hP rfl (q0 := 0) rfl) hPc hDc hK hN) rfl rfl hl.1 rfl (lv_room (Nat.le_of_ble_eq_true rfl)) d_Ma_perform_126 ⟨(Nat.le_of_ble_eq_true rfl), (Nat.le_of_ble_eq_true rfl)⟩)) (fun r62 er62 => ?_)
    refine lv_iload_n hx hb d_Ma_perform_129 rfl (lv_at hl 3 rfl) ?_
    refine lv_iadd hx hb d_Ma_perform_130 ?_
    have hPc := hP.sub (ws' := [(h0, .inr (3, [.ref x1, .ref x2, .int v1, .int v2, .int v3, .int v4, .int v5, .int (nI oc)])), (x1, .inl (G.2 0, 200, .inl (f))), (x2, .inl (G.2 0, 8, .inl (g)))]) [0, 1, 2] rfl
    have hDc := hD.sub (ws' := [(h0, .inr (3, [.ref x1, .ref x2, .int v1, .int v2, .int v3, .int v4, .int v5, .int (nI oc)])), (x1, .inl (G.2 0, 200, .inl (f))), (x2, .inl (G.2 0, 8, .inl (g)))]) [0, 1, 2] (by decide) rfl
    have hFc := va_free (wc := [(h0, .inr (3, [.ref x1, .ref x2, .int v1, .int v2, .int v3, .int v4, .int v5, .int (nI oc)])), (x1, .inl (G.2 0, 200, .inl (f))), (x2, .inl (G.2 0, 8, .inl (g)))]) hD hS hA [0, 1, 2] rfl
    refine va_callv (va_runV (As := [.int (r62 + j)]) (rest := []) ⟨hx, hb, hml, hown, hts⟩ (g_Ma_storeElement l G _ h0 x1 x2 f g v1 v2 v3 v4 v5 oc (r62 + j) ) (cwV 1 hts (nn_gV mw_864 mw_861 mw_863 mw_41 mw_93) rfl rfl rfl (by decide +kernel) ⟨Nat.le_of_ble_eq_true rfl, Nat.le_of_ble_eq_true rfl⟩) (nn_preV (va_recv hK hP rfl (q0 := 0) rfl) hPc hDc hK hN) rfl rfl hl.1 rfl (lv_room (Nat.le_of_ble_eq_true rfl)) d_Ma_perform_131 ⟨(Nat.le_of_ble_eq_true rfl), (Nat.le_of_ble_eq_true rfl)⟩) hS (fun q _ h => hFc q h) hFc (fun u63 t H locs ht hvm hw hB hz1 hk1 hS => ?_)
    obtain ⟨w64, w65, w66, w67, w68, w69, w70, w71⟩ := u63
    dsimp only at hB hw
    have hw9 : oc = w71 := hw.symm
    subst hw9
    obtain ⟨hP1, hD1⟩ := hB
    rw [ht] at hP1
    obtain ⟨hP, hD⟩ := va_join (wr := []) (w1 := [(h0, .inr (3, [.ref x1, .ref x2, .int w66, .int w67, .int w68, .int w69, .int w70, .int (nI oc)])), (x1, .inl (G.2 0, 200, .inl (w64))), (x2, .inl (G.2 0, 8, .inl (w65)))]) hP hD [0, 1, 2] [] rfl rfl (by decide) (by decide) hk1 hFc hP1 hD1
    have hP : va_P G.1 nn_cls [(h0, .inr (3, [.ref x1, .ref x2, .int w66, .int w67, .int w68, .int w69, .int w70, .int (nI oc)])), (x1, .inl (G.2 0, 200, .inl (w64))), (x2, .inl (G.2 0, 8, .inl (w65)))] H := hP
    have hD : va_D A [(h0, .inr (3, [.ref x1, .ref x2, .int w66, .int w67, .int w68, .int w69, .int w70, .int (nI oc)])), (x1, .inl (G.2 0, 200, .inl (w64))), (x2, .inl (G.2 0, 8, .inl (w65)))] := hD
    refine W.widen (k := 0) (n := 0) (Nat.le_of_ble_eq_true rfl) (Nat.le_of_ble_eq_true rfl) ?_
    refine lv_goto (tgt := 186) hx hb d_Ma_perform_134 rfl ?_
    refine W.widen (k := 0) (n := 0) (Nat.le_of_ble_eq_true rfl) (Nat.le_of_ble_eq_true rfl) ?_
    have hP9 := hP.sub (ws' := [(h0, .inr (3, [.ref x1, .ref x2, .int w66, .int w67, .int w68, .int w69, .int w70, .int (nI oc)])), (x1, .inl (G.2 0, 200, .inl (w64))), (x2, .inl (G.2 0, 8, .inl (w65)))]) [0, 1, 2] rfl
    have hD9 := hD.sub (ws' := [(h0, .inr (3, [.ref x1, .ref x2, .int w66, .int w67, .int w68, .int w69, .int w70, .int (nI oc)])), (x1, .inl (G.2 0, 200, .inl (w64))), (x2, .inl (G.2 0, 8, .inl (w65)))]) [0, 1, 2] (by decide) rfl
    exact W.vret hx hb hr (fun t ht hW => ⟨⟨(w64, w65, w66, w67, w68, w69, w70, oc), rfl, (show oc ≤ oc + 1 by omega), ⟨by rw [ht]; exact hP9, hD9⟩⟩, hS.F ht⟩) hS.2.2 d_Ma_perform_186
  by_cases hk1_5 : k = 5
  · skip
    refine lv_tableIn (off := 136) (tgt := 137) hx hb d_Ma_perform_1 (by rw [hk1_5]; decide) (by rw [hk1_5]; decide) (by rw [hk1_5]; decide) rfl ?_
    refine lv_aload_n hx hb d_Ma_perform_137 rfl (lv_at hl 0 rfl) ?_
    refine lv_iload_n hx hb d_Ma_perform_138 rfl (lv_at hl 2 rfl) ?_
    refine lv_iload_n hx hb d_Ma_perform_139 rfl (lv_at hl 3 rfl) ?_
    have hPc := hP.sub (ws' := [(h0, .inr (3, [.ref x1, .ref x2, .int v1, .int v2, .int v3, .int v4, .int v5, .int (nI oc)])), (x1, .inl (G.2 0, 200, .inl (f))), (x2, .inl (G.2 0, 8, .inl (g)))]) [0, 1, 2] rfl
    have hDc := hD.sub (ws' := [(h0, .inr (3, [.ref x1, .ref x2, .int v1, .int v2, .int v3, .int v4, .int v5, .int (nI oc)])), (x1, .inl (G.2 0, 200, .inl (f))), (x2, .inl (G.2 0, 8, .inl (g)))]) [0, 1, 2] (by decide) rfl
    have hFc := va_free (wc := [(h0, .inr (3, [.ref x1, .ref x2, .int v1, .int v2, .int v3, .int v4, .int v5, .int (nI oc)])), (x1, .inl (G.2 0, 200, .inl (f))), (x2, .inl (G.2 0, 8, .inl (g)))]) hD hS hA [0, 1, 2] rfl
    refine va_callv (va_runV (As := [.int i, .int j]) (rest := []) ⟨hx, hb, hml, hown, hts⟩ (g_Ma_enter l G _ h0 x1 x2 f g v1 v2 v3 v4 v5 oc i j ) (cwV 2 hts (nn_gV mw_868 mw_865 mw_867 mw_42 mw_93) rfl rfl rfl (by decide +kernel) ⟨Nat.le_of_ble_eq_true rfl, Nat.le_of_ble_eq_true rfl⟩) (nn_preV (va_recv hK hP rfl (q0 := 0) rfl) hPc hDc hK hN) rfl rfl hl.1 rfl (lv_room (Nat.le_of_ble_eq_true rfl)) d_Ma_perform_140 ⟨(Nat.le_of_ble_eq_true rfl), (Nat.le_of_ble_eq_true rfl)⟩) hS (fun q _ h => hFc q h) hFc (fun u72 t H locs ht hvm hw hB hz1 hk1 hS => ?_)
    obtain ⟨w73, w74, w75, w76, w77, w78, w79, w80⟩ := u72
    dsimp only at hB hw
    have hw9 : oc = w80 := hw.symm
    subst hw9
    obtain ⟨hP1, hD1⟩ := hB
    rw [ht] at hP1
    obtain ⟨hP, hD⟩ := va_join (wr := []) (w1 := [(h0, .inr (3, [.ref x1, .ref x2, .int w75, .int w76, .int w77, .int w78, .int w79, .int (nI oc)])), (x1, .inl (G.2 0, 200, .inl (w73))), (x2, .inl (G.2 0, 8, .inl (w74)))]) hP hD [0, 1, 2] [] rfl rfl (by decide) (by decide) hk1 hFc hP1 hD1
    have hP : va_P G.1 nn_cls [(h0, .inr (3, [.ref x1, .ref x2, .int w75, .int w76, .int w77, .int w78, .int w79, .int (nI oc)])), (x1, .inl (G.2 0, 200, .inl (w73))), (x2, .inl (G.2 0, 8, .inl (w74)))] H := hP
    have hD : va_D A [(h0, .inr (3, [.ref x1, .ref x2, .int w75, .int w76, .int w77, .int w78, .int w79, .int (nI oc)])), (x1, .inl (G.2 0, 200, .inl (w73))), (x2, .inl (G.2 0, 8, .inl (w74)))] := hD
    refine W.widen (k := 0) (n := 0) (Nat.le_of_ble_eq_true rfl) (Nat.le_of_ble_eq_true rfl) ?_
    refine lv_goto (tgt := 186) hx hb d_Ma_perform_143 rfl ?_
    refine W.widen (k := 0) (n := 0) (Nat.le_of_ble_eq_true rfl) (Nat.le_of_ble_eq_true rfl) ?_
    have hP9 := hP.sub (ws' := [(h0, .inr (3, [.ref x1, .ref x2, .int w75, .int w76, .int w77, .int w78, .int w79, .int (nI oc)])), (x1, .inl (G.2 0, 200, .inl (w73))), (x2, .inl (G.2 0, 8, .inl (w74)))]) [0, 1, 2] rfl
    have hD9 := hD.sub (ws' := [(h0, .inr (3, [.ref x1, .ref x2, .int w75, .int w76, .int w77, .int w78, .int w79, .int (nI oc)])), (x1, .inl (G.2 0, 200, .inl (w73))), (x2, .inl (G.2 0, 8, .inl (w74)))]) [0, 1, 2] (by decide) rfl
    exact W.vret hx hb hr (fun t ht hW => ⟨⟨(w73, w74, w75, w76, w77, w78, w79, oc), rfl, (show oc ≤ oc + 1 by omega), ⟨by rw [ht]; exact hP9, hD9⟩⟩, hS.F ht⟩) hS.2.2 d_Ma_perform_186
  by_cases hk1_6 : k = 6
  · skip
    refine lv_tableIn (off := 145) (tgt := 146) hx hb d_Ma_perform_1 (by rw [hk1_6]; decide) (by rw [hk1_6]; decide) (by rw [hk1_6]; decide) rfl ?_
    refine lv_aload_n hx hb d_Ma_perform_146 rfl (lv_at hl 0 rfl) ?_
    refine lv_iload_n hx hb d_Ma_perform_147 rfl (lv_at hl 3 rfl) ?_
    have hPc := hP.sub (ws' := [(h0, .inr (3, [.ref x1, .ref x2, .int v1, .int v2, .int v3, .int v4, .int v5, .int (nI oc)])), (x1, .inl (G.2 0, 200, .inl (f))), (x2, .inl (G.2 0, 8, .inl (g)))]) [0, 1, 2] rfl
    have hDc := hD.sub (ws' := [(h0, .inr (3, [.ref x1, .ref x2, .int v1, .int v2, .int v3, .int v4, .int v5, .int (nI oc)])), (x1, .inl (G.2 0, 200, .inl (f))), (x2, .inl (G.2 0, 8, .inl (g)))]) [0, 1, 2] (by decide) rfl
    have hFc := va_free (wc := [(h0, .inr (3, [.ref x1, .ref x2, .int v1, .int v2, .int v3, .int v4, .int v5, .int (nI oc)])), (x1, .inl (G.2 0, 200, .inl (f))), (x2, .inl (G.2 0, 8, .inl (g)))]) hD hS hA [0, 1, 2] rfl
    refine va_callv (va_runV (As := [.int j]) (rest := []) ⟨hx, hb, hml, hown, hts⟩ (g_Ma_reserve l G _ h0 x1 x2 f g v1 v2 v3 v4 v5 oc j ) (cwV 1 hts (nn_gV mw_872 mw_869 mw_871 mw_43 mw_93) rfl rfl rfl (by decide +kernel) ⟨Nat.le_of_ble_eq_true rfl, Nat.le_of_ble_eq_true rfl⟩) (nn_preV (va_recv hK hP rfl (q0 := 0) rfl) hPc hDc hK hN) rfl rfl hl.1 rfl (lv_room (Nat.le_of_ble_eq_true rfl)) d_Ma_perform_148 ⟨(Nat.le_of_ble_eq_true rfl), (Nat.le_of_ble_eq_true rfl)⟩) hS (fun q _ h => hFc q h) hFc (fun u81 t H locs ht hvm hw hB hz1 hk1 hS => ?_)
    obtain ⟨w82, w83, w84, w85, w86, w87, w88, w89⟩ := u81
    dsimp only at hB hw
    have hw9 : oc = w89 := hw.symm
    subst hw9
    obtain ⟨hP1, hD1⟩ := hB
    rw [ht] at hP1
    obtain ⟨hP, hD⟩ := va_join (wr := []) (w1 := [(h0, .inr (3, [.ref x1, .ref x2, .int w84, .int w85, .int w86, .int w87, .int w88, .int (nI oc)])), (x1, .inl (G.2 0, 200, .inl (w82))), (x2, .inl (G.2 0, 8, .inl (w83)))]) hP hD [0, 1, 2] [] rfl rfl (by decide) (by decide) hk1 hFc hP1 hD1
    have hP : va_P G.1 nn_cls [(h0, .inr (3, [.ref x1, .ref x2, .int w84, .int w85, .int w86, .int w87, .int w88, .int (nI oc)])), (x1, .inl (G.2 0, 200, .inl (w82))), (x2, .inl (G.2 0, 8, .inl (w83)))] H := hP
    have hD : va_D A [(h0, .inr (3, [.ref x1, .ref x2, .int w84, .int w85, .int w86, .int w87, .int w88, .int (nI oc)])), (x1, .inl (G.2 0, 200, .inl (w82))), (x2, .inl (G.2 0, 8, .inl (w83)))] := hD
    refine W.widen (k := 0) (n := 0) (Nat.le_of_ble_eq_true rfl) (Nat.le_of_ble_eq_true rfl) ?_
    refine lv_goto (tgt := 186) hx hb d_Ma_perform_151 rfl ?_
    refine W.widen (k := 0) (n := 0) (Nat.le_of_ble_eq_true rfl) (Nat.le_of_ble_eq_true rfl) ?_
    have hP9 := hP.sub (ws' := [(h0, .inr (3, [.ref x1, .ref x2, .int w84, .int w85, .int w86, .int w87, .int w88, .int (nI oc)])), (x1, .inl (G.2 0, 200, .inl (w82))), (x2, .inl (G.2 0, 8, .inl (w83)))]) [0, 1, 2] rfl
    have hD9 := hD.sub (ws' := [(h0, .inr (3, [.ref x1, .ref x2, .int w84, .int w85, .int w86, .int w87, .int w88, .int (nI oc)])), (x1, .inl (G.2 0, 200, .inl (w82))), (x2, .inl (G.2 0, 8, .inl (w83)))]) [0, 1, 2] (by decide) rfl
    exact W.vret hx hb hr (fun t ht hW => ⟨⟨(w82, w83, w84, w85, w86, w87, w88, oc), rfl, (show oc ≤ oc + 1 by omega), ⟨by rw [ht]; exact hP9, hD9⟩⟩, hS.F ht⟩) hS.2.2 d_Ma_perform_186
  by_cases hk1_7 : k = 7
  · skip
    refine lv_tableIn (off := 153) (tgt := 154) hx hb d_Ma_perform_1 (by rw [hk1_7]; decide) (by rw [hk1_7]; decide) (by rw [hk1_7]; decide) rfl ?_
    refine lv_aload_n hx hb d_Ma_perform_154 rfl (lv_at hl 0 rfl) ?_
    refine lv_iload_n hx hb d_Ma_perform_155 rfl (lv_at hl 3 rfl) ?_
    refine va_put (D := G.1) (ci := 3) (v := .int j) (ty := .int) (C := R_Ma) (T := T_Ma) (N := 8) hx hb hg in_Ma t_Ma ok_Ma nm_Ma hown hK hP hD hS 0 rfl rfl 3 (by decide) (hg _ mw_249) (fun _ h9 => h9) rfl (by decide +kernel) rfl rfl (Nat.le_of_ble_eq_true rfl) d_Ma_perform_156 (fun H locs hP hD hS => ?_)
    have hP : va_P G.1 nn_cls [(h0, .inr (3, [.ref x1, .ref x2, .int v1, .int j, .int v3, .int v4, .int v5, .int (nI oc)])), (x1, .inl (G.2 0, 200, .inl (f))), (x2, .inl (G.2 0, 8, .inl (g)))] H := hP
    have hD : va_D A [(h0, .inr (3, [.ref x1, .ref x2, .int v1, .int j, .int v3, .int v4, .int v5, .int (nI oc)])), (x1, .inl (G.2 0, 200, .inl (f))), (x2, .inl (G.2 0, 8, .inl (g)))] := hD
    refine lv_goto (tgt := 186) hx hb d_Ma_perform_159 rfl ?_
    refine W.widen (k := 0) (n := 0) (Nat.le_of_ble_eq_true rfl) (Nat.le_of_ble_eq_true rfl) ?_
    have hP9 := hP.sub (ws' := [(h0, .inr (3, [.ref x1, .ref x2, .int v1, .int j, .int v3, .int v4, .int v5, .int (nI oc)])), (x1, .inl (G.2 0, 200, .inl (f))), (x2, .inl (G.2 0, 8, .inl (g)))]) [0, 1, 2] rfl
    have hD9 := hD.sub (ws' := [(h0, .inr (3, [.ref x1, .ref x2, .int v1, .int j, .int v3, .int v4, .int v5, .int (nI oc)])), (x1, .inl (G.2 0, 200, .inl (f))), (x2, .inl (G.2 0, 8, .inl (g)))]) [0, 1, 2] (by decide) rfl
    exact W.vret hx hb hr (fun t ht hW => ⟨⟨(f, g, v1, j, v3, v4, v5, oc), rfl, (show oc ≤ oc + 1 by omega), ⟨by rw [ht]; exact hP9, hD9⟩⟩, hS.F ht⟩) hS.2.2 d_Ma_perform_186
  by_cases hk1_8 : k = 8
  · skip
    refine lv_tableIn (off := 161) (tgt := 162) hx hb d_Ma_perform_1 (by rw [hk1_8]; decide) (by rw [hk1_8]; decide) (by rw [hk1_8]; decide) rfl ?_
    refine lv_aload_n hx hb d_Ma_perform_162 rfl (lv_at hl 0 rfl) ?_
    have hPc := hP.sub (ws' := [(h0, .inr (3, [.ref x1, .ref x2, .int v1, .int v2, .int v3, .int v4, .int v5, .int (nI oc)])), (x1, .inl (G.2 0, 200, .inl (f))), (x2, .inl (G.2 0, 8, .inl (g)))]) [0, 1, 2] rfl
    have hDc := hD.sub (ws' := [(h0, .inr (3, [.ref x1, .ref x2, .int v1, .int v2, .int v3, .int v4, .int v5, .int (nI oc)])), (x1, .inl (G.2 0, 200, .inl (f))), (x2, .inl (G.2 0, 8, .inl (g)))]) [0, 1, 2] (by decide) rfl
    have hFc := va_free (wc := [(h0, .inr (3, [.ref x1, .ref x2, .int v1, .int v2, .int v3, .int v4, .int v5, .int (nI oc)])), (x1, .inl (G.2 0, 200, .inl (f))), (x2, .inl (G.2 0, 8, .inl (g)))]) hD hS hA [0, 1, 2] rfl
    refine va_calli (va_runV (As := []) (rest := []) ⟨hx, hb, hml, hown, hts⟩ (g_Ma_pop l G _ h0 x1 x2 f g v1 v2 v3 v4 v5 oc  ) (cwV 0 hts (nn_gV mw_860 mw_857 mw_859 mw_40 mw_93) rfl rfl rfl (by decide +kernel) ⟨Nat.le_of_ble_eq_true rfl, Nat.le_of_ble_eq_true rfl⟩) (nn_preV (va_recv hK hP rfl (q0 := 0) rfl) hPc hDc hK hN) rfl rfl hl.1 rfl (lv_room (Nat.le_of_ble_eq_true rfl)) d_Ma_perform_163 ⟨(Nat.le_of_ble_eq_true rfl), (Nat.le_of_ble_eq_true rfl)⟩) hS (fun q _ h => hFc q h) hFc (fun r91 u90 t H locs ht hvm hw hB hz1 hk1 hS => ?_)
    obtain ⟨w92, w93, w94, w95, w96, w97, w98, w99⟩ := u90
    dsimp only at hB hw
    have hw9 : oc = w99 := hw.symm
    subst hw9
    obtain ⟨hP1, hD1⟩ := hB
    rw [ht] at hP1
    obtain ⟨hP, hD⟩ := va_join (wr := []) (w1 := [(h0, .inr (3, [.ref x1, .ref x2, .int w94, .int w95, .int w96, .int w97, .int w98, .int (nI oc)])), (x1, .inl (G.2 0, 200, .inl (w92))), (x2, .inl (G.2 0, 8, .inl (w93)))]) hP hD [0, 1, 2] [] rfl rfl (by decide) (by decide) hk1 hFc hP1 hD1
    have hP : va_P G.1 nn_cls [(h0, .inr (3, [.ref x1, .ref x2, .int w94, .int w95, .int w96, .int w97, .int w98, .int (nI oc)])), (x1, .inl (G.2 0, 200, .inl (w92))), (x2, .inl (G.2 0, 8, .inl (w93)))] H := hP
    have hD : va_D A [(h0, .inr (3, [.ref x1, .ref x2, .int w94, .int w95, .int w96, .int w97, .int w98, .int (nI oc)])), (x1, .inl (G.2 0, 200, .inl (w92))), (x2, .inl (G.2 0, 8, .inl (w93)))] := hD
    refine W.widen (k := 0) (n := 0) (Nat.le_of_ble_eq_true rfl) (Nat.le_of_ble_eq_true rfl) ?_
    refine lv_if_ne (tgt := 186) hx hb d_Ma_perform_166 rfl (fun hc166 => ?_) (fun hc166 => ?_)
    · skip
      refine W.widen (k := 0) (n := 0) (Nat.le_of_ble_eq_true rfl) (Nat.le_of_ble_eq_true rfl) ?_
      have hP9 := hP.sub (ws' := [(h0, .inr (3, [.ref x1, .ref x2, .int w94, .int w95, .int w96, .int w97, .int w98, .int (nI oc)])), (x1, .inl (G.2 0, 200, .inl (w92))), (x2, .inl (G.2 0, 8, .inl (w93)))]) [0, 1, 2] rfl
      have hD9 := hD.sub (ws' := [(h0, .inr (3, [.ref x1, .ref x2, .int w94, .int w95, .int w96, .int w97, .int w98, .int (nI oc)])), (x1, .inl (G.2 0, 200, .inl (w92))), (x2, .inl (G.2 0, 8, .inl (w93)))]) [0, 1, 2] (by decide) rfl
      exact W.vret hx hb hr (fun t ht hW => ⟨⟨(w92, w93, w94, w95, w96, w97, w98, oc), rfl, (show oc ≤ oc + 1 by omega), ⟨by rw [ht]; exact hP9, hD9⟩⟩, hS.F ht⟩) hS.2.2 d_Ma_perform_186
    · skip
      refine lv_aload_n hx hb d_Ma_perform_169 rfl (lv_at hl 0 rfl) ?_
      refine lv_iload_n hx hb d_Ma_perform_170 rfl (lv_at hl 3 rfl) ?_
      refine va_put (D := G.1) (ci := 3) (v := .int j) (ty := .int) (C := R_Ma) (T := T_Ma) (N := 8) hx hb hg in_Ma t_Ma ok_Ma nm_Ma hown hK hP hD hS 0 rfl rfl 3 (by decide) (hg _ mw_249) (fun _ h9 => h9) rfl (by decide +kernel) rfl rfl (Nat.le_of_ble_eq_true rfl) d_Ma_perform_171 (fun H locs hP hD hS => ?_)
      have hP : va_P G.1 nn_cls [(h0, .inr (3, [.ref x1, .ref x2, .int w94, .int j, .int w96, .int w97, .int w98, .int (nI oc)])), (x1, .inl (G.2 0, 200, .inl (w92))), (x2, .inl (G.2 0, 8, .inl (w93)))] H := hP
      have hD : va_D A [(h0, .inr (3, [.ref x1, .ref x2, .int w94, .int j, .int w96, .int w97, .int w98, .int (nI oc)])), (x1, .inl (G.2 0, 200, .inl (w92))), (x2, .inl (G.2 0, 8, .inl (w93)))] := hD
      refine lv_goto (tgt := 186) hx hb d_Ma_perform_174 rfl ?_
      refine W.widen (k := 0) (n := 0) (Nat.le_of_ble_eq_true rfl) (Nat.le_of_ble_eq_true rfl) ?_
      have hP9 := hP.sub (ws' := [(h0, .inr (3, [.ref x1, .ref x2, .int w94, .int j, .int w96, .int w97, .int w98, .int (nI oc)])), (x1, .inl (G.2 0, 200, .inl (w92))), (x2, .inl (G.2 0, 8, .inl (w93)))]) [0, 1, 2] rfl
      have hD9 := hD.sub (ws' := [(h0, .inr (3, [.ref x1, .ref x2, .int w94, .int j, .int w96, .int w97, .int w98, .int (nI oc)])), (x1, .inl (G.2 0, 200, .inl (w92))), (x2, .inl (G.2 0, 8, .inl (w93)))]) [0, 1, 2] (by decide) rfl
      exact W.vret hx hb hr (fun t ht hW => ⟨⟨(w92, w93, w94, j, w96, w97, w98, oc), rfl, (show oc ≤ oc + 1 by omega), ⟨by rw [ht]; exact hP9, hD9⟩⟩, hS.F ht⟩) hS.2.2 d_Ma_perform_186
  by_cases hk1_9 : k = 9
  · skip
    refine lv_tableIn (off := 176) (tgt := 177) hx hb d_Ma_perform_1 (by rw [hk1_9]; decide) (by rw [hk1_9]; decide) (by rw [hk1_9]; decide) rfl ?_
    refine lv_aload_n hx hb d_Ma_perform_177 rfl (lv_at hl 0 rfl) ?_
    refine lv_iload_n hx hb d_Ma_perform_178 rfl (lv_at hl 3 rfl) ?_
    refine lv_iload_n hx hb d_Ma_perform_179 rfl (lv_at hl 2 rfl) ?_
    have hPc := hP.sub (ws' := [(h0, .inr (3, [.ref x1, .ref x2, .int v1, .int v2, .int v3, .int v4, .int v5, .int (nI oc)])), (x1, .inl (G.2 0, 200, .inl (f))), (x2, .inl (G.2 0, 8, .inl (g)))]) [0, 1, 2] rfl
    have hDc := hD.sub (ws' := [(h0, .inr (3, [.ref x1, .ref x2, .int v1, .int v2, .int v3, .int v4, .int v5, .int (nI oc)])), (x1, .inl (G.2 0, 200, .inl (f))), (x2, .inl (G.2 0, 8, .inl (g)))]) [0, 1, 2] (by decide) rfl
    have hFc := va_free (wc := [(h0, .inr (3, [.ref x1, .ref x2, .int v1, .int v2, .int v3, .int v4, .int v5, .int (nI oc)])), (x1, .inl (G.2 0, 200, .inl (f))), (x2, .inl (G.2 0, 8, .inl (g)))]) hD hS hA [0, 1, 2] rfl
    refine va_callv (va_runV (As := [.int j, .int i]) (rest := []) ⟨hx, hb, hml, hown, hts⟩ (g_Ma_operate l G _ h0 x1 x2 f g v1 v2 v3 v4 v5 oc j i (by omega)) (cwV 2 hts (nn_gV mw_876 mw_873 mw_875 mw_44 mw_93) rfl rfl rfl (by decide +kernel) ⟨Nat.le_of_ble_eq_true rfl, Nat.le_of_ble_eq_true rfl⟩) (nn_preV (va_recv hK hP rfl (q0 := 0) rfl) hPc hDc hK hN) rfl rfl hl.1 rfl (lv_room (Nat.le_of_ble_eq_true rfl)) d_Ma_perform_180 ⟨(Nat.le_of_ble_eq_true rfl), (Nat.le_of_ble_eq_true rfl)⟩) hS (fun q _ h => hFc q h) hFc (fun u100 t H locs ht hvm hw hB hz1 hk1 hS => ?_)
    obtain ⟨w101, w102, w103, w104, w105, w106, w107, w108⟩ := u100
    dsimp only at hB hw
    have hww108 := hw
    obtain ⟨hP1, hD1⟩ := hB
    rw [ht] at hP1
    obtain ⟨hP, hD⟩ := va_join (wr := []) (w1 := [(h0, .inr (3, [.ref x1, .ref x2, .int w103, .int w104, .int w105, .int w106, .int w107, .int (nI w108)])), (x1, .inl (G.2 0, 200, .inl (w101))), (x2, .inl (G.2 0, 8, .inl (w102)))]) hP hD [0, 1, 2] [] rfl rfl (by decide) (by decide) hk1 hFc hP1 hD1
    have hP : va_P G.1 nn_cls [(h0, .inr (3, [.ref x1, .ref x2, .int w103, .int w104, .int w105, .int w106, .int w107, .int (nI w108)])), (x1, .inl (G.2 0, 200, .inl (w101))), (x2, .inl (G.2 0, 8, .inl (w102)))] H := hP
    have hD : va_D A [(h0, .inr (3, [.ref x1, .ref x2, .int w103, .int w104, .int w105, .int w106, .int w107, .int (nI w108)])), (x1, .inl (G.2 0, 200, .inl (w101))), (x2, .inl (G.2 0, 8, .inl (w102)))] := hD
    refine W.widen (k := 0) (n := 0) (Nat.le_of_ble_eq_true rfl) (Nat.le_of_ble_eq_true rfl) ?_
    refine lv_goto (tgt := 186) hx hb d_Ma_perform_183 rfl ?_
    refine W.widen (k := 0) (n := 0) (Nat.le_of_ble_eq_true rfl) (Nat.le_of_ble_eq_true rfl) ?_
    have hP9 := hP.sub (ws' := [(h0, .inr (3, [.ref x1, .ref x2, .int w103, .int w104, .int w105, .int w106, .int w107, .int (nI w108)])), (x1, .inl (G.2 0, 200, .inl (w101))), (x2, .inl (G.2 0, 8, .inl (w102)))]) [0, 1, 2] rfl
    have hD9 := hD.sub (ws' := [(h0, .inr (3, [.ref x1, .ref x2, .int w103, .int w104, .int w105, .int w106, .int w107, .int (nI w108)])), (x1, .inl (G.2 0, 200, .inl (w101))), (x2, .inl (G.2 0, 8, .inl (w102)))]) [0, 1, 2] (by decide) rfl
    exact W.vret hx hb hr (fun t ht hW => ⟨⟨(w101, w102, w103, w104, w105, w106, w107, w108), rfl, (show w108 ≤ oc + 1 by omega), ⟨by rw [ht]; exact hP9, hD9⟩⟩, hS.F ht⟩) hS.2.2 d_Ma_perform_186
  refine lv_tableOut (tgt := 186) hx hb d_Ma_perform_1 (by have q0 := lv_neT hk1_0 (show (0 : Int32).toInt = 0 by decide); have q1 := lv_neT hk1_1 (show (1 : Int32).toInt = 1 by decide); have q2 := lv_neT hk1_2 (show (2 : Int32).toInt = 2 by decide); have q3 := lv_neT hk1_3 (show (3 : Int32).toInt = 3 by decide); have q4 := lv_neT hk1_4 (show (4 : Int32).toInt = 4 by decide); have q5 := lv_neT hk1_5 (show (5 : Int32).toInt = 5 by decide); have q6 := lv_neT hk1_6 (show (6 : Int32).toInt = 6 by decide); have q7 := lv_neT hk1_7 (show (7 : Int32).toInt = 7 by decide); have q8 := lv_neT hk1_8 (show (8 : Int32).toInt = 8 by decide); have q9 := lv_neT hk1_9 (show (9 : Int32).toInt = 9 by decide); omega) rfl ?_
  refine W.widen (k := 0) (n := 0) (Nat.le_of_ble_eq_true rfl) (Nat.le_of_ble_eq_true rfl) ?_
  have hP9 := hP.sub (ws' := [(h0, .inr (3, [.ref x1, .ref x2, .int v1, .int v2, .int v3, .int v4, .int v5, .int (nI oc)])), (x1, .inl (G.2 0, 200, .inl (f))), (x2, .inl (G.2 0, 8, .inl (g)))]) [0, 1, 2] rfl
  have hD9 := hD.sub (ws' := [(h0, .inr (3, [.ref x1, .ref x2, .int v1, .int v2, .int v3, .int v4, .int v5, .int (nI oc)])), (x1, .inl (G.2 0, 200, .inl (f))), (x2, .inl (G.2 0, 8, .inl (g)))]) [0, 1, 2] (by decide) rfl
  exact W.vret hx hb hr (fun t ht hW => ⟨⟨(f, g, v1, v2, v3, v4, v5, oc), rfl, (show oc ≤ oc + 1 by omega), ⟨by rw [ht]; exact hP9, hD9⟩⟩, hS.F ht⟩) hS.2.2 d_Ma_perform_186
