/-! contracts (by wip/p1/gen.py) -/
theorem mw_890 : (.fieldLink R_Mo 72 R_Mo "thrown" "I" : Cond) ∈ nn_gw := nn_at 890 (by decide +kernel) (by decide +kernel)
theorem d_Mo_error_0 : decode b_Mo_error 0 = .ok (.aload_n 0, 1) := by decide +kernel
theorem d_Mo_error_1 : decode b_Mo_error 1 = .ok (.iconst 0, 1) := by decide +kernel
theorem d_Mo_error_2 : decode b_Mo_error 2 = .ok (.putfield 72, 3) := by decide +kernel
theorem d_Mo_error_5 : decode b_Mo_error 5 = .ok (.iload_n 1, 1) := by decide +kernel
theorem d_Mo_error_6 : decode b_Mo_error 6 = .ok (.ifCond .ne 10, 3) := by decide +kernel
theorem d_Mo_error_9 : decode b_Mo_error 9 = .ok (.aload_n 0, 1) := by decide +kernel
theorem d_Mo_error_10 : decode b_Mo_error 10 = .ok (.getfield 13, 3) := by decide +kernel
theorem d_Mo_error_13 : decode b_Mo_error 13 = .ok (.goto 16, 3) := by decide +kernel
theorem d_Mo_error_16 : decode b_Mo_error 16 = .ok (.iload_n 1, 1) := by decide +kernel
theorem d_Mo_error_17 : decode b_Mo_error 17 = .ok (.iconst 1, 1) := by decide +kernel
theorem d_Mo_error_18 : decode b_Mo_error 18 = .ok (.if_icmp .ne 10, 3) := by decide +kernel
theorem d_Mo_error_21 : decode b_Mo_error 21 = .ok (.aload_n 0, 1) := by decide +kernel
theorem d_Mo_error_22 : decode b_Mo_error 22 = .ok (.getfield 17, 3) := by decide +kernel
theorem d_Mo_error_25 : decode b_Mo_error 25 = .ok (.goto 4, 3) := by decide +kernel
theorem d_Mo_error_28 : decode b_Mo_error 28 = .ok (.iconst (-1), 1) := by decide +kernel
theorem d_Mo_error_29 : decode b_Mo_error 29 = .ok (.ireturn, 1) := by decide +kernel

set_option maxHeartbeats 4000000 in
set_option maxRecDepth 100000 in
theorem c_Mo_error (l : Launch) (G : nn_G) (sz : Nat) (h0 z1 z2 z3 z4 z5 z6 z7 z8 z9 z10 z11 z12 z13 z14 z15 z16 z17 : Nat) (k : Int32) : Met l y_Mo_error w_Mo_error ({ frames := 0, cells := 0, slots := 0, locals := 0 }) (nn_P G [.ref h0, .int k] [(h0, .inr (7, [.int 0, .int 0, .ref z1, .int 0, .int 0, .int 0, .int 0, .int 0, .int 0, .int (-1), .int (-1), .int 0, .ref z2, .ref z3, .ref z4, .int 0, .ref z5, .ref z6, .ref z7, .ref z8, .ref z9, .int 0, .int 0, .int 0, .int 0, .int 0, .ref z10, .ref z11, .ref z12, .int 0, .ref z13, .ref z14, .ref z15, .int 0, .int 0, .int 0, .int 0, .int (-1), .int 0, .int 0, .ref z16, .ref z17]))] sz) (va_Qi (fun (r : Int32) (u : Unit) => r = -1) (fun u t => True) (va_A [(h0, .inr (7, [.int 0, .int 0, .ref z1, .int 0, .int 0, .int 0, .int 0, .int 0, .int 0, .int (-1), .int (-1), .int 0, .ref z2, .ref z3, .ref z4, .int 0, .ref z5, .ref z6, .ref z7, .ref z8, .ref z9, .int 0, .int 0, .int 0, .int 0, .int 0, .ref z10, .ref z11, .ref z12, .int 0, .ref z13, .ref z14, .ref z15, .int 0, .int 0, .int 0, .int 0, .int (-1), .int 0, .int 0, .ref z16, .ref z17]))] sz)) 0 0 (va_A [(h0, .inr (7, [.int 0, .int 0, .ref z1, .int 0, .int 0, .int 0, .int 0, .int 0, .int 0, .int (-1), .int (-1), .int 0, .ref z2, .ref z3, .ref z4, .int 0, .ref z5, .ref z6, .ref z7, .ref z8, .ref z9, .int 0, .int 0, .int 0, .int 0, .int 0, .ref z10, .ref z11, .ref z12, .int 0, .ref z13, .ref z14, .ref z15, .int 0, .int 0, .int 0, .int 0, .int (-1), .int 0, .int 0, .ref z16, .ref z17]))] sz) := by
  refine Met.ofW (cc := b_Mo_error) (maxL := 2) (ret := some .int) (by decide) rfl ?_
  intro p e s m args below meth c s₁ B hml hv
  obtain ⟨rfl, hsz, hP, hK, hD0, hN⟩ := hv
  have hx := B.exec
  have hb := B.bytes
  have hr := B.returns
  have hts := atoms_spec (ws := w_Mo_error) B.pre
  have hg : ∀ w ∈ nn_gw, w.before _ s = true := fun w h => hts w (List.mem_cons_of_mem _ h)
  have hown : s.vm.findClass R_Mo = some m.cls := findClass_of_methodNamed B.named
  have hlocks := B.notSynchronized
  subst hsz
  have hD := hD0.self (sz := s.heap.size)
  generalize hAe : va_A [(h0, .inr (7, [.int 0, .int 0, .ref z1, .int 0, .int 0, .int 0, .int 0, .int 0, .int 0, .int (-1), .int (-1), .int 0, .ref z2, .ref z3, .ref z4, .int 0, .ref z5, .ref z6, .ref z7, .ref z8, .ref z9, .int 0, .int 0, .int 0, .int 0, .int 0, .ref z10, .ref z11, .ref z12, .int 0, .ref z13, .ref z14, .ref z15, .int 0, .int 0, .int 0, .int 0, .int (-1), .int 0, .int 0, .ref z16, .ref z17]))] s.heap.size = A at hD ⊢
  have hA : ∀ q : Nat, s.heap.size ≤ q → A q := fun q h => by rw [← hAe]; exact Or.inr h
  have hS : va_S A s.heap s.heap [] := va_S.rf
  have hP : va_P G.1 nn_cls [(h0, .inr (7, [.int 0, .int 0, .ref z1, .int 0, .int 0, .int 0, .int 0, .int 0, .int 0, .int (-1), .int (-1), .int 0, .ref z2, .ref z3, .ref z4, .int 0, .ref z5, .ref z6, .ref z7, .ref z8, .ref z9, .int 0, .int 0, .int 0, .int 0, .int 0, .ref z10, .ref z11, .ref z12, .int 0, .ref z13, .ref z14, .ref z15, .int 0, .int 0, .int 0, .int 0, .int (-1), .int 0, .int 0, .ref z16, .ref z17]))] s.heap := hP
  have hl := lv_entry ([.ref h0, .int k]) (n := 2) (Nat.le_of_ble_eq_true rfl)
  rw [lg_entry_eq]
  generalize (lg_sl ([.ref h0, .int k]) ++ List.replicate (2 - (lg_sl ([.ref h0, .int k])).length) Slot.unset).toArray = ls at hl ⊢
  have hl : lv_has ls 2 [(0, .ref h0), (1, .int k)] := hl
  refine lv_aload_n hx hb d_Mo_error_0 rfl (lv_at hl 0 rfl) ?_
  refine lv_iconst (v := 0) hx hb d_Mo_error_1 (by decide) ?_
  refine va_put (D := G.1) (ci := 7) (v := .int 0) (ty := .int) (C := R_Mo) (T := T_Mo) (N := 42) hx hb hg in_Mo t_Mo ok_Mo nm_Mo hown hK hP hD hS 0 rfl rfl 0 (by decide) (hg _ mw_890) (fun _ h9 => h9) rfl (by decide +kernel) rfl rfl (Nat.le_of_ble_eq_true rfl) d_Mo_error_2 (fun H locs hP hD hS => ?_)
  have hP : va_P G.1 nn_cls [(h0, .inr (7, [.int 0, .int 0, .ref z1, .int 0, .int 0, .int 0, .int 0, .int 0, .int 0, .int (-1), .int (-1), .int 0, .ref z2, .ref z3, .ref z4, .int 0, .ref z5, .ref z6, .ref z7, .ref z8, .ref z9, .int 0, .int 0, .int 0, .int 0, .int 0, .ref z10, .ref z11, .ref z12, .int 0, .ref z13, .ref z14, .ref z15, .int 0, .int 0, .int 0, .int 0, .int (-1), .int 0, .int 0, .ref z16, .ref z17]))] H := hP
  have hD : va_D A [(h0, .inr (7, [.int 0, .int 0, .ref z1, .int 0, .int 0, .int 0, .int 0, .int 0, .int 0, .int (-1), .int (-1), .int 0, .ref z2, .ref z3, .ref z4, .int 0, .ref z5, .ref z6, .ref z7, .ref z8, .ref z9, .int 0, .int 0, .int 0, .int 0, .int 0, .ref z10, .ref z11, .ref z12, .int 0, .ref z13, .ref z14, .ref z15, .int 0, .int 0, .int 0, .int 0, .int (-1), .int 0, .int 0, .ref z16, .ref z17]))] := hD
  refine lv_iload_n hx hb d_Mo_error_5 rfl (lv_at hl 1 rfl) ?_
  refine lv_if_ne (tgt := 16) hx hb d_Mo_error_6 rfl (fun hc6 => ?_) (fun hc6 => ?_)
  · skip
    refine lv_iload_n hx hb d_Mo_error_16 rfl (lv_at hl 1 rfl) ?_
    refine lv_iconst (v := 1) hx hb d_Mo_error_17 (by decide) ?_
    refine lv_icmp_ne (tgt := 28) hx hb d_Mo_error_18 rfl (fun hc18 => ?_) (fun hc18 => ?_)
    · skip
      refine lv_iconst (v := (-1)) hx hb d_Mo_error_28 (by decide) ?_
      refine W.widen (k := 0) (n := 0) (Nat.le_of_ble_eq_true rfl) (Nat.le_of_ble_eq_true rfl) ?_
      exact W.iret (v := (-1)) hx hb hr (fun t ht hW => ⟨⟨(-1), (), rfl, rfl, trivial⟩, hS.F ht⟩) hS.2.2 d_Mo_error_29
    · skip
      refine lv_aload_n hx hb d_Mo_error_21 rfl (lv_at hl 0 rfl) ?_
      refine va_get (D := G.1) (ci := 7) (v := .int (-1)) (C := R_Mo) (T := T_Mo) (N := 42) hx hb hg in_Mo hown hK hP 0 rfl rfl 10 (by decide) (hg _ mw_900) (fun _ h9 => h9) rfl d_Mo_error_22 ?_
      refine lv_goto (tgt := 29) hx hb d_Mo_error_25 rfl ?_
      refine W.widen (k := 0) (n := 0) (Nat.le_of_ble_eq_true rfl) (Nat.le_of_ble_eq_true rfl) ?_
      exact W.iret (v := (-1)) hx hb hr (fun t ht hW => ⟨⟨(-1), (), rfl, rfl, trivial⟩, hS.F ht⟩) hS.2.2 d_Mo_error_29
  · skip
    refine lv_aload_n hx hb d_Mo_error_9 rfl (lv_at hl 0 rfl) ?_
    refine va_get (D := G.1) (ci := 7) (v := .int (-1)) (C := R_Mo) (T := T_Mo) (N := 42) hx hb hg in_Mo hown hK hP 0 rfl rfl 9 (by decide) (hg _ mw_899) (fun _ h9 => h9) rfl d_Mo_error_10 ?_
    refine lv_goto (tgt := 29) hx hb d_Mo_error_13 rfl ?_
    refine W.widen (k := 0) (n := 0) (Nat.le_of_ble_eq_true rfl) (Nat.le_of_ble_eq_true rfl) ?_
    exact W.iret (v := (-1)) hx hb hr (fun t ht hW => ⟨⟨(-1), (), rfl, rfl, trivial⟩, hS.F ht⟩) hS.2.2 d_Mo_error_29

theorem mw_919 : (.fieldLink R_Mo 229 R_Mo "size" "I" : Cond) ∈ nn_gw := nn_at 919 (by decide +kernel) (by decide +kernel)
theorem d_Mo_code_0 : decode b_Mo_code 0 = .ok (.aload_n 0, 1) := by decide +kernel
theorem d_Mo_code_1 : decode b_Mo_code 1 = .ok (.iconst 0, 1) := by decide +kernel
theorem d_Mo_code_2 : decode b_Mo_code 2 = .ok (.putfield 72, 3) := by decide +kernel
theorem d_Mo_code_5 : decode b_Mo_code 5 = .ok (.iload_n 1, 1) := by decide +kernel
theorem d_Mo_code_6 : decode b_Mo_code 6 = .ok (.iconst (-1), 1) := by decide +kernel
theorem d_Mo_code_7 : decode b_Mo_code 7 = .ok (.if_icmp .ne 8, 3) := by decide +kernel
theorem d_Mo_code_10 : decode b_Mo_code 10 = .ok (.aload_n 0, 1) := by decide +kernel
theorem d_Mo_code_11 : decode b_Mo_code 11 = .ok (.getfield 229, 3) := by decide +kernel
theorem d_Mo_code_14 : decode b_Mo_code 14 = .ok (.ireturn, 1) := by decide +kernel
theorem d_Mo_code_15 : decode b_Mo_code 15 = .ok (.iload_n 1, 1) := by decide +kernel
theorem d_Mo_code_16 : decode b_Mo_code 16 = .ok (.ifCond .lt 11, 3) := by decide +kernel
theorem d_Mo_code_19 : decode b_Mo_code 19 = .ok (.iload_n 1, 1) := by decide +kernel
theorem d_Mo_code_20 : decode b_Mo_code 20 = .ok (.aload_n 0, 1) := by decide +kernel
theorem d_Mo_code_21 : decode b_Mo_code 21 = .ok (.getfield 229, 3) := by decide +kernel
theorem d_Mo_code_24 : decode b_Mo_code 24 = .ok (.if_icmp .lt 5, 3) := by decide +kernel
theorem d_Mo_code_27 : decode b_Mo_code 27 = .ok (.iconst 0, 1) := by decide +kernel
theorem d_Mo_code_28 : decode b_Mo_code 28 = .ok (.ireturn, 1) := by decide +kernel

set_option maxHeartbeats 4000000 in
set_option maxRecDepth 100000 in
theorem c_Mo_code (l : Launch) (G : nn_G) (sz : Nat) (h0 z1 z2 z3 z4 z5 z6 z7 z8 z9 z10 z11 z12 z13 z14 z15 z16 z17 : Nat) (k j : Int32) : Met l y_Mo_code w_Mo_code ({ frames := 0, cells := 0, slots := 0, locals := 0 }) (nn_P G [.ref h0, .int k, .int j] [(h0, .inr (7, [.int 0, .int 0, .ref z1, .int 0, .int 0, .int 0, .int 0, .int 0, .int 0, .int (-1), .int (-1), .int 0, .ref z2, .ref z3, .ref z4, .int 0, .ref z5, .ref z6, .ref z7, .ref z8, .ref z9, .int 0, .int 0, .int 0, .int 0, .int 0, .ref z10, .ref z11, .ref z12, .int 0, .ref z13, .ref z14, .ref z15, .int 0, .int 0, .int 0, .int 0, .int (-1), .int 0, .int 0, .ref z16, .ref z17]))] sz) (va_Qi (fun (r : Int32) (u : Unit) => r = 0) (fun u t => True) (va_A [(h0, .inr (7, [.int 0, .int 0, .ref z1, .int 0, .int 0, .int 0, .int 0, .int 0, .int 0, .int (-1), .int (-1), .int 0, .ref z2, .ref z3, .ref z4, .int 0, .ref z5, .ref z6, .ref z7, .ref z8, .ref z9, .int 0, .int 0, .int 0, .int 0, .int 0, .ref z10, .ref z11, .ref z12, .int 0, .ref z13, .ref z14, .ref z15, .int 0, .int 0, .int 0, .int 0, .int (-1), .int 0, .int 0, .ref z16, .ref z17]))] sz)) 0 0 (va_A [(h0, .inr (7, [.int 0, .int 0, .ref z1, .int 0, .int 0, .int 0, .int 0, .int 0, .int 0, .int (-1), .int (-1), .int 0, .ref z2, .ref z3, .ref z4, .int 0, .ref z5, .ref z6, .ref z7, .ref z8, .ref z9, .int 0, .int 0, .int 0, .int 0, .int 0, .ref z10, .ref z11, .ref z12, .int 0, .ref z13, .ref z14, .ref z15, .int 0, .int 0, .int 0, .int 0, .int (-1), .int 0, .int 0, .ref z16, .ref z17]))] sz) := by
  refine Met.ofW (cc := b_Mo_code) (maxL := 3) (ret := some .int) (by decide) rfl ?_
  intro p e s m args below meth c s₁ B hml hv
  obtain ⟨rfl, hsz, hP, hK, hD0, hN⟩ := hv
  have hx := B.exec
  have hb := B.bytes
  have hr := B.returns
  have hts := atoms_spec (ws := w_Mo_code) B.pre
  have hg : ∀ w ∈ nn_gw, w.before _ s = true := fun w h => hts w (List.mem_cons_of_mem _ h)
  have hown : s.vm.findClass R_Mo = some m.cls := findClass_of_methodNamed B.named
  have hlocks := B.notSynchronized
  subst hsz
  have hD := hD0.self (sz := s.heap.size)
  generalize hAe : va_A [(h0, .inr (7, [.int 0, .int 0, .ref z1, .int 0, .int 0, .int 0, .int 0, .int 0, .int 0, .int (-1), .int (-1), .int 0, .ref z2, .ref z3, .ref z4, .int 0, .ref z5, .ref z6, .ref z7, .ref z8, .ref z9, .int 0, .int 0, .int 0, .int 0, .int 0, .ref z10, .ref z11, .ref z12, .int 0, .ref z13, .ref z14, .ref z15, .int 0, .int 0, .int 0, .int 0, .int (-1), .int 0, .int 0, .ref z16, .ref z17]))] s.heap.size = A at hD ⊢
  have hA : ∀ q : Nat, s.heap.size ≤ q → A q := fun q h => by rw [← hAe]; exact Or.inr h
  have hS : va_S A s.heap s.heap [] := va_S.rf
  have hP : va_P G.1 nn_cls [(h0, .inr (7, [.int 0, .int 0, .ref z1, .int 0, .int 0, .int 0, .int 0, .int 0, .int 0, .int (-1), .int (-1), .int 0, .ref z2, .ref z3, .ref z4, .int 0, .ref z5, .ref z6, .ref z7, .ref z8, .ref z9, .int 0, .int 0, .int 0, .int 0, .int 0, .ref z10, .ref z11, .ref z12, .int 0, .ref z13, .ref z14, .ref z15, .int 0, .int 0, .int 0, .int 0, .int (-1), .int 0, .int 0, .ref z16, .ref z17]))] s.heap := hP
  have hl := lv_entry ([.ref h0, .int k, .int j]) (n := 3) (Nat.le_of_ble_eq_true rfl)
  rw [lg_entry_eq]
  generalize (lg_sl ([.ref h0, .int k, .int j]) ++ List.replicate (3 - (lg_sl ([.ref h0, .int k, .int j])).length) Slot.unset).toArray = ls at hl ⊢
  have hl : lv_has ls 3 [(0, .ref h0), (1, .int k), (2, .int j)] := hl
  refine lv_aload_n hx hb d_Mo_code_0 rfl (lv_at hl 0 rfl) ?_
  refine lv_iconst (v := 0) hx hb d_Mo_code_1 (by decide) ?_
  refine va_put (D := G.1) (ci := 7) (v := .int 0) (ty := .int) (C := R_Mo) (T := T_Mo) (N := 42) hx hb hg in_Mo t_Mo ok_Mo nm_Mo hown hK hP hD hS 0 rfl rfl 0 (by decide) (hg _ mw_890) (fun _ h9 => h9) rfl (by decide +kernel) rfl rfl (Nat.le_of_ble_eq_true rfl) d_Mo_code_2 (fun H locs hP hD hS => ?_)
  have hP : va_P G.1 nn_cls [(h0, .inr (7, [.int 0, .int 0, .ref z1, .int 0, .int 0, .int 0, .int 0, .int 0, .int 0, .int (-1), .int (-1), .int 0, .ref z2, .ref z3, .ref z4, .int 0, .ref z5, .ref z6, .ref z7, .ref z8, .ref z9, .int 0, .int 0, .int 0, .int 0, .int 0, .ref z10, .ref z11, .ref z12, .int 0, .ref z13, .ref z14, .ref z15, .int 0, .int 0, .int 0, .int 0, .int (-1), .int 0, .int 0, .ref z16, .ref z17]))] H := hP
  have hD : va_D A [(h0, .inr (7, [.int 0, .int 0, .ref z1, .int 0, .int 0, .int 0, .int 0, .int 0, .int 0, .int (-1), .int (-1), .int 0, .ref z2, .ref z3, .ref z4, .int 0, .ref z5, .ref z6, .ref z7, .ref z8, .ref z9, .int 0, .int 0, .int 0, .int 0, .int 0, .ref z10, .ref z11, .ref z12, .int 0, .ref z13, .ref z14, .ref z15, .int 0, .int 0, .int 0, .int 0, .int (-1), .int 0, .int 0, .ref z16, .ref z17]))] := hD
  refine lv_iload_n hx hb d_Mo_code_5 rfl (lv_at hl 1 rfl) ?_
  refine lv_iconst (v := (-1)) hx hb d_Mo_code_6 (by decide) ?_
  refine lv_icmp_ne (tgt := 15) hx hb d_Mo_code_7 rfl (fun hc7 => ?_) (fun hc7 => ?_)
  · skip
    refine lv_iload_n hx hb d_Mo_code_15 rfl (lv_at hl 1 rfl) ?_
    refine lv_if_lt (tgt := 27) hx hb d_Mo_code_16 rfl (fun hc16 => ?_) (fun hc16 => ?_)
    · skip
      refine lv_iconst (v := 0) hx hb d_Mo_code_27 (by decide) ?_
      refine W.widen (k := 0) (n := 0) (Nat.le_of_ble_eq_true rfl) (Nat.le_of_ble_eq_true rfl) ?_
      exact W.iret (v := 0) hx hb hr (fun t ht hW => ⟨⟨0, (), rfl, rfl, trivial⟩, hS.F ht⟩) hS.2.2 d_Mo_code_28
    · skip
      refine lv_iload_n hx hb d_Mo_code_19 rfl (lv_at hl 1 rfl) ?_
      refine lv_aload_n hx hb d_Mo_code_20 rfl (lv_at hl 0 rfl) ?_
      refine va_get (D := G.1) (ci := 7) (v := .int 0) (C := R_Mo) (T := T_Mo) (N := 42) hx hb hg in_Mo hown hK hP 0 rfl rfl 29 (by decide) (hg _ mw_919) (fun _ h9 => h9) rfl d_Mo_code_21 ?_
      refine lv_icmp_lt (tgt := 29) hx hb d_Mo_code_24 rfl (fun h => absurd h (hc16)) (fun _ => ?_)
      refine lv_iconst (v := 0) hx hb d_Mo_code_27 (by decide) ?_
      refine W.widen (k := 0) (n := 0) (Nat.le_of_ble_eq_true rfl) (Nat.le_of_ble_eq_true rfl) ?_
      exact W.iret (v := 0) hx hb hr (fun t ht hW => ⟨⟨0, (), rfl, rfl, trivial⟩, hS.F ht⟩) hS.2.2 d_Mo_code_28
  · skip
    refine lv_aload_n hx hb d_Mo_code_10 rfl (lv_at hl 0 rfl) ?_
    refine va_get (D := G.1) (ci := 7) (v := .int 0) (C := R_Mo) (T := T_Mo) (N := 42) hx hb hg in_Mo hown hK hP 0 rfl rfl 29 (by decide) (hg _ mw_919) (fun _ h9 => h9) rfl d_Mo_code_11 ?_
    refine W.widen (k := 0) (n := 0) (Nat.le_of_ble_eq_true rfl) (Nat.le_of_ble_eq_true rfl) ?_
    exact W.iret (v := 0) hx hb hr (fun t ht hW => ⟨⟨0, (), rfl, rfl, trivial⟩, hS.F ht⟩) hS.2.2 d_Mo_code_14

theorem mw_923 : (.fieldLink R_Mo 232 R_Mo "there" "Z" : Cond) ∈ nn_gw := nn_at 923 (by decide +kernel) (by decide +kernel)
theorem d_Mo_start_0 : decode b_Mo_start 0 = .ok (.aload_n 0, 1) := by decide +kernel
theorem d_Mo_start_1 : decode b_Mo_start 1 = .ok (.iconst 0, 1) := by decide +kernel
theorem d_Mo_start_2 : decode b_Mo_start 2 = .ok (.putfield 72, 3) := by decide +kernel
theorem d_Mo_start_5 : decode b_Mo_start 5 = .ok (.aload_n 0, 1) := by decide +kernel
theorem d_Mo_start_6 : decode b_Mo_start 6 = .ok (.getfield 232, 3) := by decide +kernel
theorem d_Mo_start_9 : decode b_Mo_start 9 = .ok (.ifCond .ne 5, 3) := by decide +kernel
theorem d_Mo_start_12 : decode b_Mo_start 12 = .ok (.iconst 0, 1) := by decide +kernel
theorem d_Mo_start_13 : decode b_Mo_start 13 = .ok (.ireturn, 1) := by decide +kernel

set_option maxHeartbeats 4000000 in
set_option maxRecDepth 100000 in
theorem c_Mo_start (l : Launch) (G : nn_G) (sz : Nat) (h0 z1 z2 z3 z4 z5 z6 z7 z8 z9 z10 z11 z12 z13 z14 z15 z16 z17 : Nat) : Met l y_Mo_start w_Mo_start ({ frames := 0, cells := 0, slots := 0, locals := 0 }) (nn_P G [.ref h0] [(h0, .inr (7, [.int 0, .int 0, .ref z1, .int 0, .int 0, .int 0, .int 0, .int 0, .int 0, .int (-1), .int (-1), .int 0, .ref z2, .ref z3, .ref z4, .int 0, .ref z5, .ref z6, .ref z7, .ref z8, .ref z9, .int 0, .int 0, .int 0, .int 0, .int 0, .ref z10, .ref z11, .ref z12, .int 0, .ref z13, .ref z14, .ref z15, .int 0, .int 0, .int 0, .int 0, .int (-1), .int 0, .int 0, .ref z16, .ref z17]))] sz) (va_Qi (fun (r : Int32) (u : Unit) => r = 0) (fun u t => True) (va_A [(h0, .inr (7, [.int 0, .int 0, .ref z1, .int 0, .int 0, .int 0, .int 0, .int 0, .int 0, .int (-1), .int (-1), .int 0, .ref z2, .ref z3, .ref z4, .int 0, .ref z5, .ref z6, .ref z7, .ref z8, .ref z9, .int 0, .int 0, .int 0, .int 0, .int 0, .ref z10, .ref z11, .ref z12, .int 0, .ref z13, .ref z14, .ref z15, .int 0, .int 0, .int 0, .int 0, .int (-1), .int 0, .int 0, .ref z16, .ref z17]))] sz)) 0 0 (va_A [(h0, .inr (7, [.int 0, .int 0, .ref z1, .int 0, .int 0, .int 0, .int 0, .int 0, .int 0, .int (-1), .int (-1), .int 0, .ref z2, .ref z3, .ref z4, .int 0, .ref z5, .ref z6, .ref z7, .ref z8, .ref z9, .int 0, .int 0, .int 0, .int 0, .int 0, .ref z10, .ref z11, .ref z12, .int 0, .ref z13, .ref z14, .ref z15, .int 0, .int 0, .int 0, .int 0, .int (-1), .int 0, .int 0, .ref z16, .ref z17]))] sz) := by
  refine Met.ofW (cc := b_Mo_start) (maxL := 1) (ret := some .boolean) (by decide) rfl ?_
  intro p e s m args below meth c s₁ B hml hv
  obtain ⟨rfl, hsz, hP, hK, hD0, hN⟩ := hv
  have hx := B.exec
  have hb := B.bytes
  have hr := B.returns
  have hts := atoms_spec (ws := w_Mo_start) B.pre
  have hg : ∀ w ∈ nn_gw, w.before _ s = true := fun w h => hts w (List.mem_cons_of_mem _ h)
  have hown : s.vm.findClass R_Mo = some m.cls := findClass_of_methodNamed B.named
  have hlocks := B.notSynchronized
  subst hsz
  have hD := hD0.self (sz := s.heap.size)
  generalize hAe : va_A [(h0, .inr (7, [.int 0, .int 0, .ref z1, .int 0, .int 0, .int 0, .int 0, .int 0, .int 0, .int (-1), .int (-1), .int 0, .ref z2, .ref z3, .ref z4, .int 0, .ref z5, .ref z6, .ref z7, .ref z8, .ref z9, .int 0, .int 0, .int 0, .int 0, .int 0, .ref z10, .ref z11, .ref z12, .int 0, .ref z13, .ref z14, .ref z15, .int 0, .int 0, .int 0, .int 0, .int (-1), .int 0, .int 0, .ref z16, .ref z17]))] s.heap.size = A at hD ⊢
  have hA : ∀ q : Nat, s.heap.size ≤ q → A q := fun q h => by rw [← hAe]; exact Or.inr h
  have hS : va_S A s.heap s.heap [] := va_S.rf
  have hP : va_P G.1 nn_cls [(h0, .inr (7, [.int 0, .int 0, .ref z1, .int 0, .int 0, .int 0, .int 0, .int 0, .int 0, .int (-1), .int (-1), .int 0, .ref z2, .ref z3, .ref z4, .int 0, .ref z5, .ref z6, .ref z7, .ref z8, .ref z9, .int 0, .int 0, .int 0, .int 0, .int 0, .ref z10, .ref z11, .ref z12, .int 0, .ref z13, .ref z14, .ref z15, .int 0, .int 0, .int 0, .int 0, .int (-1), .int 0, .int 0, .ref z16, .ref z17]))] s.heap := hP
  have hl := lv_entry ([.ref h0]) (n := 1) (Nat.le_of_ble_eq_true rfl)
  rw [lg_entry_eq]
  generalize (lg_sl ([.ref h0]) ++ List.replicate (1 - (lg_sl ([.ref h0])).length) Slot.unset).toArray = ls at hl ⊢
  have hl : lv_has ls 1 [(0, .ref h0)] := hl
  refine lv_aload_n hx hb d_Mo_start_0 rfl (lv_at hl 0 rfl) ?_
  refine lv_iconst (v := 0) hx hb d_Mo_start_1 (by decide) ?_
  refine va_put (D := G.1) (ci := 7) (v := .int 0) (ty := .int) (C := R_Mo) (T := T_Mo) (N := 42) hx hb hg in_Mo t_Mo ok_Mo nm_Mo hown hK hP hD hS 0 rfl rfl 0 (by decide) (hg _ mw_890) (fun _ h9 => h9) rfl (by decide +kernel) rfl rfl (Nat.le_of_ble_eq_true rfl) d_Mo_start_2 (fun H locs hP hD hS => ?_)
  have hP : va_P G.1 nn_cls [(h0, .inr (7, [.int 0, .int 0, .ref z1, .int 0, .int 0, .int 0, .int 0, .int 0, .int 0, .int (-1), .int (-1), .int 0, .ref z2, .ref z3, .ref z4, .int 0, .ref z5, .ref z6, .ref z7, .ref z8, .ref z9, .int 0, .int 0, .int 0, .int 0, .int 0, .ref z10, .ref z11, .ref z12, .int 0, .ref z13, .ref z14, .ref z15, .int 0, .int 0, .int 0, .int 0, .int (-1), .int 0, .int 0, .ref z16, .ref z17]))] H := hP
  have hD : va_D A [(h0, .inr (7, [.int 0, .int 0, .ref z1, .int 0, .int 0, .int 0, .int 0, .int 0, .int 0, .int (-1), .int (-1), .int 0, .ref z2, .ref z3, .ref z4, .int 0, .ref z5, .ref z6, .ref z7, .ref z8, .ref z9, .int 0, .int 0, .int 0, .int 0, .int 0, .ref z10, .ref z11, .ref z12, .int 0, .ref z13, .ref z14, .ref z15, .int 0, .int 0, .int 0, .int 0, .int (-1), .int 0, .int 0, .ref z16, .ref z17]))] := hD
  refine lv_aload_n hx hb d_Mo_start_5 rfl (lv_at hl 0 rfl) ?_
  refine va_get (D := G.1) (ci := 7) (v := .int 0) (C := R_Mo) (T := T_Mo) (N := 42) hx hb hg in_Mo hown hK hP 0 rfl rfl 33 (by decide) (hg _ mw_923) (fun _ h9 => h9) rfl d_Mo_start_6 ?_
  refine lv_if_ne (tgt := 14) hx hb d_Mo_start_9 rfl (fun h => absurd (by decide) h) (fun _ => ?_)
  refine lv_iconst (v := 0) hx hb d_Mo_start_12 (by decide) ?_
  refine W.widen (k := 0) (n := 0) (Nat.le_of_ble_eq_true rfl) (Nat.le_of_ble_eq_true rfl) ?_
  exact W.zret (v := 0) hx hb hr rfl (fun t ht hW => ⟨⟨0, (), rfl, rfl, trivial⟩, hS.F ht⟩) hS.2.2 d_Mo_start_13

theorem mw_924 : (.fieldLink R_Mo 239 R_Mo "state" "I" : Cond) ∈ nn_gw := nn_at 924 (by decide +kernel) (by decide +kernel)
theorem mw_925 : (.fieldLink R_Mo 242 R_Mo "next" "I" : Cond) ∈ nn_gw := nn_at 925 (by decide +kernel) (by decide +kernel)
theorem mw_926 : (.fieldLink R_Mo 245 R_Mo "base" "I" : Cond) ∈ nn_gw := nn_at 926 (by decide +kernel) (by decide +kernel)
theorem mw_928 : (.fieldLink R_Mo 248 R_Mo "frames" "I" : Cond) ∈ nn_gw := nn_at 928 (by decide +kernel) (by decide +kernel)
theorem mw_929 : (.fieldLink R_Mo 251 R_Mo "told" "I" : Cond) ∈ nn_gw := nn_at 929 (by decide +kernel) (by decide +kernel)
theorem d_Mo_about_0 : decode b_Mo_about 0 = .ok (.aload_n 0, 1) := by decide +kernel
theorem d_Mo_about_1 : decode b_Mo_about 1 = .ok (.iconst 0, 1) := by decide +kernel
theorem d_Mo_about_2 : decode b_Mo_about 2 = .ok (.putfield 72, 3) := by decide +kernel
theorem d_Mo_about_5 : decode b_Mo_about 5 = .ok (.iload_n 1, 1) := by decide +kernel
theorem d_Mo_about_6 : decode b_Mo_about 6 = .ok (.tableswitch 68 0 5 #[38, 43, 48, 53, 58, 63], 38) := by decide +kernel
theorem d_Mo_about_44 : decode b_Mo_about 44 = .ok (.aload_n 0, 1) := by decide +kernel
theorem d_Mo_about_45 : decode b_Mo_about 45 = .ok (.getfield 239, 3) := by decide +kernel
theorem d_Mo_about_48 : decode b_Mo_about 48 = .ok (.ireturn, 1) := by decide +kernel
theorem d_Mo_about_49 : decode b_Mo_about 49 = .ok (.aload_n 0, 1) := by decide +kernel
theorem d_Mo_about_50 : decode b_Mo_about 50 = .ok (.getfield 242, 3) := by decide +kernel
theorem d_Mo_about_53 : decode b_Mo_about 53 = .ok (.ireturn, 1) := by decide +kernel
theorem d_Mo_about_54 : decode b_Mo_about 54 = .ok (.aload_n 0, 1) := by decide +kernel
theorem d_Mo_about_55 : decode b_Mo_about 55 = .ok (.getfield 245, 3) := by decide +kernel
theorem d_Mo_about_58 : decode b_Mo_about 58 = .ok (.ireturn, 1) := by decide +kernel
theorem d_Mo_about_59 : decode b_Mo_about 59 = .ok (.aload_n 0, 1) := by decide +kernel
theorem d_Mo_about_60 : decode b_Mo_about 60 = .ok (.getfield 63, 3) := by decide +kernel
theorem d_Mo_about_63 : decode b_Mo_about 63 = .ok (.ireturn, 1) := by decide +kernel
theorem d_Mo_about_64 : decode b_Mo_about 64 = .ok (.aload_n 0, 1) := by decide +kernel
theorem d_Mo_about_65 : decode b_Mo_about 65 = .ok (.getfield 248, 3) := by decide +kernel
theorem d_Mo_about_68 : decode b_Mo_about 68 = .ok (.ireturn, 1) := by decide +kernel
theorem d_Mo_about_69 : decode b_Mo_about 69 = .ok (.aload_n 0, 1) := by decide +kernel
theorem d_Mo_about_70 : decode b_Mo_about 70 = .ok (.getfield 251, 3) := by decide +kernel
theorem d_Mo_about_73 : decode b_Mo_about 73 = .ok (.ireturn, 1) := by decide +kernel
theorem d_Mo_about_74 : decode b_Mo_about 74 = .ok (.iconst (-1), 1) := by decide +kernel
theorem d_Mo_about_75 : decode b_Mo_about 75 = .ok (.ireturn, 1) := by decide +kernel

set_option maxHeartbeats 4000000 in
set_option maxRecDepth 100000 in
theorem c_Mo_about (l : Launch) (G : nn_G) (sz : Nat) (h0 z1 z2 z3 z4 z5 z6 z7 z8 z9 z10 z11 z12 z13 z14 z15 z16 z17 : Nat) (w : Int32) : Met l y_Mo_about w_Mo_about ({ frames := 0, cells := 0, slots := 0, locals := 0 }) (nn_P G [.ref h0, .int w] [(h0, .inr (7, [.int 0, .int 0, .ref z1, .int 0, .int 0, .int 0, .int 0, .int 0, .int 0, .int (-1), .int (-1), .int 0, .ref z2, .ref z3, .ref z4, .int 0, .ref z5, .ref z6, .ref z7, .ref z8, .ref z9, .int 0, .int 0, .int 0, .int 0, .int 0, .ref z10, .ref z11, .ref z12, .int 0, .ref z13, .ref z14, .ref z15, .int 0, .int 0, .int 0, .int 0, .int (-1), .int 0, .int 0, .ref z16, .ref z17]))] sz) (va_Qi (fun (r : Int32) (u : Unit) => r = nb_ab w) (fun u t => True) (va_A [(h0, .inr (7, [.int 0, .int 0, .ref z1, .int 0, .int 0, .int 0, .int 0, .int 0, .int 0, .int (-1), .int (-1), .int 0, .ref z2, .ref z3, .ref z4, .int 0, .ref z5, .ref z6, .ref z7, .ref z8, .ref z9, .int 0, .int 0, .int 0, .int 0, .int 0, .ref z10, .ref z11, .ref z12, .int 0, .ref z13, .ref z14, .ref z15, .int 0, .int 0, .int 0, .int 0, .int (-1), .int 0, .int 0, .ref z16, .ref z17]))] sz)) 0 0 (va_A [(h0, .inr (7, [.int 0, .int 0, .ref z1, .int 0, .int 0, .int 0, .int 0, .int 0, .int 0, .int (-1), .int (-1), .int 0, .ref z2, .ref z3, .ref z4, .int 0, .ref z5, .ref z6, .ref z7, .ref z8, .ref z9, .int 0, .int 0, .int 0, .int 0, .int 0, .ref z10, .ref z11, .ref z12, .int 0, .ref z13, .ref z14, .ref z15, .int 0, .int 0, .int 0, .int 0, .int (-1), .int 0, .int 0, .ref z16, .ref z17]))] sz) := by
  refine Met.ofW (cc := b_Mo_about) (maxL := 2) (ret := some .int) (by decide) rfl ?_
  intro p e s m args below meth c s₁ B hml hv
  obtain ⟨rfl, hsz, hP, hK, hD0, hN⟩ := hv
  have hx := B.exec
  have hb := B.bytes
  have hr := B.returns
  have hts := atoms_spec (ws := w_Mo_about) B.pre
  have hg : ∀ w ∈ nn_gw, w.before _ s = true := fun w h => hts w (List.mem_cons_of_mem _ h)
  have hown : s.vm.findClass R_Mo = some m.cls := findClass_of_methodNamed B.named
  have hlocks := B.notSynchronized
  subst hsz
  have hD := hD0.self (sz := s.heap.size)
  generalize hAe : va_A [(h0, .inr (7, [.int 0, .int 0, .ref z1, .int 0, .int 0, .int 0, .int 0, .int 0, .int 0, .int (-1), .int (-1), .int 0, .ref z2, .ref z3, .ref z4, .int 0, .ref z5, .ref z6, .ref z7, .ref z8, .ref z9, .int 0, .int 0, .int 0, .int 0, .int 0, .ref z10, .ref z11, .ref z12, .int 0, .ref z13, .ref z14, .ref z15, .int 0, .int 0, .int 0, .int 0, .int (-1), .int 0, .int 0, .ref z16, .ref z17]))] s.heap.size = A at hD ⊢
  have hA : ∀ q : Nat, s.heap.size ≤ q → A q := fun q h => by rw [← hAe]; exact Or.inr h
  have hS : va_S A s.heap s.heap [] := va_S.rf
  have hP : va_P G.1 nn_cls [(h0, .inr (7, [.int 0, .int 0, .ref z1, .int 0, .int 0, .int 0, .int 0, .int 0, .int 0, .int (-1), .int (-1), .int 0, .ref z2, .ref z3, .ref z4, .int 0, .ref z5, .ref z6, .ref z7, .ref z8, .ref z9, .int 0, .int 0, .int 0, .int 0, .int 0, .ref z10, .ref z11, .ref z12, .int 0, .ref z13, .ref z14, .ref z15, .int 0, .int 0, .int 0, .int 0, .int (-1), .int 0, .int 0, .ref z16, .ref z17]))] s.heap := hP
  have hl := lv_entry ([.ref h0, .int w]) (n := 2) (Nat.le_of_ble_eq_true rfl)
  rw [lg_entry_eq]
  generalize (lg_sl ([.ref h0, .int w]) ++ List.replicate (2 - (lg_sl ([.ref h0, .int w])).length) Slot.unset).toArray = ls at hl ⊢
  have hl : lv_has ls 2 [(0, .ref h0), (1, .int w)] := hl
  refine lv_aload_n hx hb d_Mo_about_0 rfl (lv_at hl 0 rfl) ?_
  refine lv_iconst (v := 0) hx hb d_Mo_about_1 (by decide) ?_
  refine va_put (D := G.1) (ci := 7) (v := .int 0) (ty := .int) (C := R_Mo) (T := T_Mo) (N := 42) hx hb hg in_Mo t_Mo ok_Mo nm_Mo hown hK hP hD hS 0 rfl rfl 0 (by decide) (hg _ mw_890) (fun _ h9 => h9) rfl (by decide +kernel) rfl rfl (Nat.le_of_ble_eq_true rfl) d_Mo_about_2 (fun H locs hP hD hS => ?_)
  have hP : va_P G.1 nn_cls [(h0, .inr (7, [.int 0, .int 0, .ref z1, .int 0, .int 0, .int 0, .int 0, .int 0, .int 0, .int (-1), .int (-1), .int 0, .ref z2, .ref z3, .ref z4, .int 0, .ref z5, .ref z6, .ref z7, .ref z8, .ref z9, .int 0, .int 0, .int 0, .int 0, .int 0, .ref z10, .ref z11, .ref z12, .int 0, .ref z13, .ref z14, .ref z15, .int 0, .int 0, .int 0, .int 0, .int (-1), .int 0, .int 0, .ref z16, .ref z17]))] H := hP
  have hD : va_D A [(h0, .inr (7, [.int 0, .int 0, .ref z1, .int 0, .int 0, .int 0, .int 0, .int 0, .int 0, .int (-1), .int (-1), .int 0, .ref z2, .ref z3, .ref z4, .int 0, .ref z5, .ref z6, .ref z7, .ref z8, .ref z9, .int 0, .int 0, .int 0, .int 0, .int 0, .ref z10, .ref z11, .ref z12, .int 0, .ref z13, .ref z14, .ref z15, .int 0, .int 0, .int 0, .int 0, .int (-1), .int 0, .int 0, .ref z16, .ref z17]))] := hD
  refine lv_iload_n hx hb d_Mo_about_5 rfl (lv_at hl 1 rfl) ?_
  by_cases hk6_0 : w = 0
  · skip
    refine lv_tableIn (off := 38) (tgt := 44) hx hb d_Mo_about_6 (by rw [hk6_0]; decide) (by rw [hk6_0]; decide) (by rw [hk6_0]; decide) rfl ?_
    refine lv_aload_n hx hb d_Mo_about_44 rfl (lv_at hl 0 rfl) ?_
    refine va_get (D := G.1) (ci := 7) (v := .int 0) (C := R_Mo) (T := T_Mo) (N := 42) hx hb hg in_Mo hown hK hP 0 rfl rfl 34 (by decide) (hg _ mw_924) (fun _ h9 => h9) rfl d_Mo_about_45 ?_
    refine W.widen (k := 0) (n := 0) (Nat.le_of_ble_eq_true rfl) (Nat.le_of_ble_eq_true rfl) ?_
    exact W.iret (v := 0) hx hb hr (fun t ht hW => ⟨⟨0, (), rfl, by simp [nb_ab, hk6_0], trivial⟩, hS.F ht⟩) hS.2.2 d_Mo_about_48
  by_cases hk6_1 : w = 1
  · skip
    refine lv_tableIn (off := 43) (tgt := 49) hx hb d_Mo_about_6 (by rw [hk6_1]; decide) (by rw [hk6_1]; decide) (by rw [hk6_1]; decide) rfl ?_
    refine lv_aload_n hx hb d_Mo_about_49 rfl (lv_at hl 0 rfl) ?_
    refine va_get (D := G.1) (ci := 7) (v := .int 0) (C := R_Mo) (T := T_Mo) (N := 42) hx hb hg in_Mo hown hK hP 0 rfl rfl 35 (by decide) (hg _ mw_925) (fun _ h9 => h9) rfl d_Mo_about_50 ?_
    refine W.widen (k := 0) (n := 0) (Nat.le_of_ble_eq_true rfl) (Nat.le_of_ble_eq_true rfl) ?_
    exact W.iret (v := 0) hx hb hr (fun t ht hW => ⟨⟨0, (), rfl, by simp [nb_ab, hk6_1], trivial⟩, hS.F ht⟩) hS.2.2 d_Mo_about_53
  by_cases hk6_2 : w = 2
  · skip
    refine lv_tableIn (off := 48) (tgt := 54) hx hb d_Mo_about_6 (by rw [hk6_2]; decide) (by rw [hk6_2]; decide) (by rw [hk6_2]; decide) rfl ?_
    refine lv_aload_n hx hb d_Mo_about_54 rfl (lv_at hl 0 rfl) ?_
    refine va_get (D := G.1) (ci := 7) (v := .int 0) (C := R_Mo) (T := T_Mo) (N := 42) hx hb hg in_Mo hown hK hP 0 rfl rfl 36 (by decide) (hg _ mw_926) (fun _ h9 => h9) rfl d_Mo_about_55 ?_
    refine W.widen (k := 0) (n := 0) (Nat.le_of_ble_eq_true rfl) (Nat.le_of_ble_eq_true rfl) ?_
    exact W.iret (v := 0) hx hb hr (fun t ht hW => ⟨⟨0, (), rfl, by simp [nb_ab, hk6_2], trivial⟩, hS.F ht⟩) hS.2.2 d_Mo_about_58
  by_cases hk6_3 : w = 3
  · skip
    refine lv_tableIn (off := 53) (tgt := 59) hx hb d_Mo_about_6 (by rw [hk6_3]; decide) (by rw [hk6_3]; decide) (by rw [hk6_3]; decide) rfl ?_
    refine lv_aload_n hx hb d_Mo_about_59 rfl (lv_at hl 0 rfl) ?_
    refine va_get (D := G.1) (ci := 7) (v := .int (-1)) (C := R_Mo) (T := T_Mo) (N := 42) hx hb hg in_Mo hown hK hP 0 rfl rfl 37 (by decide) (hg _ mw_927) (fun _ h9 => h9) rfl d_Mo_about_60 ?_
    refine W.widen (k := 0) (n := 0) (Nat.le_of_ble_eq_true rfl) (Nat.le_of_ble_eq_true rfl) ?_
    exact W.iret (v := (-1)) hx hb hr (fun t ht hW => ⟨⟨(-1), (), rfl, by simp [nb_ab, hk6_3], trivial⟩, hS.F ht⟩) hS.2.2 d_Mo_about_63
  by_cases hk6_4 : w = 4
  · skip
    refine lv_tableIn (off := 58) (tgt := 64) hx hb d_Mo_about_6 (by rw [hk6_4]; decide) (by rw [hk6_4]; decide) (by rw [hk6_4]; decide) rfl ?_
    refine lv_aload_n hx hb d_Mo_about_64 rfl (lv_at hl 0 rfl) ?_
    refine va_get (D := G.1) (ci := 7) (v := .int 0) (C := R_Mo) (T := T_Mo) (N := 42) hx hb hg in_Mo hown hK hP 0 rfl rfl 38 (by decide) (hg _ mw_928) (fun _ h9 => h9) rfl d_Mo_about_65 ?_
    refine W.widen (k := 0) (n := 0) (Nat.le_of_ble_eq_true rfl) (Nat.le_of_ble_eq_true rfl) ?_
    exact W.iret (v := 0) hx hb hr (fun t ht hW => ⟨⟨0, (), rfl, by simp [nb_ab, hk6_4], trivial⟩, hS.F ht⟩) hS.2.2 d_Mo_about_68
  by_cases hk6_5 : w = 5
  · skip
    refine lv_tableIn (off := 63) (tgt := 69) hx hb d_Mo_about_6 (by rw [hk6_5]; decide) (by rw [hk6_5]; decide) (by rw [hk6_5]; decide) rfl ?_
    refine lv_aload_n hx hb d_Mo_about_69 rfl (lv_at hl 0 rfl) ?_
    refine va_get (D := G.1) (ci := 7) (v := .int 0) (C := R_Mo) (T := T_Mo) (N := 42) hx hb hg in_Mo hown hK hP 0 rfl rfl 39 (by decide) (hg _ mw_929) (fun _ h9 => h9) rfl d_Mo_about_70 ?_
    refine W.widen (k := 0) (n := 0) (Nat.le_of_ble_eq_true rfl) (Nat.le_of_ble_eq_true rfl) ?_
    exact W.iret (v := 0) hx hb hr (fun t ht hW => ⟨⟨0, (), rfl, by simp [nb_ab, hk6_5], trivial⟩, hS.F ht⟩) hS.2.2 d_Mo_about_73
  refine lv_tableOut (tgt := 74) hx hb d_Mo_about_6 (nb_out6 hk6_0 hk6_1 hk6_2 hk6_3 hk6_4 hk6_5) rfl ?_
  refine lv_iconst (v := (-1)) hx hb d_Mo_about_74 (by decide) ?_
  refine W.widen (k := 0) (n := 0) (Nat.le_of_ble_eq_true rfl) (Nat.le_of_ble_eq_true rfl) ?_
  exact W.iret (v := (-1)) hx hb hr (fun t ht hW => ⟨⟨(-1), (), rfl, by simp [nb_ab, hk6_0, hk6_1, hk6_2, hk6_3, hk6_4, hk6_5], trivial⟩, hS.F ht⟩) hS.2.2 d_Mo_about_75

theorem d_Mo_cell_0 : decode b_Mo_cell 0 = .ok (.aload_n 0, 1) := by decide +kernel
theorem d_Mo_cell_1 : decode b_Mo_cell 1 = .ok (.iconst 0, 1) := by decide +kernel
theorem d_Mo_cell_2 : decode b_Mo_cell 2 = .ok (.putfield 72, 3) := by decide +kernel
theorem d_Mo_cell_5 : decode b_Mo_cell 5 = .ok (.iload_n 1, 1) := by decide +kernel
theorem d_Mo_cell_6 : decode b_Mo_cell 6 = .ok (.ifCond .lt 40, 3) := by decide +kernel
theorem d_Mo_cell_9 : decode b_Mo_cell 9 = .ok (.iload_n 1, 1) := by decide +kernel
theorem d_Mo_cell_10 : decode b_Mo_cell 10 = .ok (.sipush 200, 3) := by decide +kernel
theorem d_Mo_cell_13 : decode b_Mo_cell 13 = .ok (.if_icmp .ge 33, 3) := by decide +kernel
theorem d_Mo_cell_16 : decode b_Mo_cell 16 = .ok (.iload_n 1, 1) := by decide +kernel
theorem d_Mo_cell_17 : decode b_Mo_cell 17 = .ok (.aload_n 0, 1) := by decide +kernel
theorem d_Mo_cell_18 : decode b_Mo_cell 18 = .ok (.getfield 63, 3) := by decide +kernel
theorem d_Mo_cell_21 : decode b_Mo_cell 21 = .ok (.if_icmp .le 21, 3) := by decide +kernel
theorem d_Mo_cell_24 : decode b_Mo_cell 24 = .ok (.iload_n 1, 1) := by decide +kernel
theorem d_Mo_cell_25 : decode b_Mo_cell 25 = .ok (.aload_n 0, 1) := by decide +kernel
theorem d_Mo_cell_26 : decode b_Mo_cell 26 = .ok (.getfield 245, 3) := by decide +kernel
theorem d_Mo_cell_29 : decode b_Mo_cell 29 = .ok (.if_icmp .lt 17, 3) := by decide +kernel
theorem d_Mo_cell_32 : decode b_Mo_cell 32 = .ok (.iload_n 1, 1) := by decide +kernel
theorem d_Mo_cell_33 : decode b_Mo_cell 33 = .ok (.aload_n 0, 1) := by decide +kernel
theorem d_Mo_cell_34 : decode b_Mo_cell 34 = .ok (.getfield 245, 3) := by decide +kernel
theorem d_Mo_cell_37 : decode b_Mo_cell 37 = .ok (.iconst 3, 1) := by decide +kernel
theorem d_Mo_cell_38 : decode b_Mo_cell 38 = .ok (.iadd, 1) := by decide +kernel
theorem d_Mo_cell_39 : decode b_Mo_cell 39 = .ok (.if_icmp .ge 7, 3) := by decide +kernel
theorem d_Mo_cell_42 : decode b_Mo_cell 42 = .ok (.iconst 1, 1) := by decide +kernel
theorem d_Mo_cell_43 : decode b_Mo_cell 43 = .ok (.goto 4, 3) := by decide +kernel
theorem d_Mo_cell_46 : decode b_Mo_cell 46 = .ok (.iconst 0, 1) := by decide +kernel
theorem d_Mo_cell_47 : decode b_Mo_cell 47 = .ok (.istore_n 2, 1) := by decide +kernel
theorem d_Mo_cell_48 : decode b_Mo_cell 48 = .ok (.iload_n 2, 1) := by decide +kernel
theorem d_Mo_cell_49 : decode b_Mo_cell 49 = .ok (.ifCond .eq 12, 3) := by decide +kernel
theorem d_Mo_cell_52 : decode b_Mo_cell 52 = .ok (.aload_n 0, 1) := by decide +kernel
theorem d_Mo_cell_53 : decode b_Mo_cell 53 = .ok (.getfield 66, 3) := by decide +kernel
theorem d_Mo_cell_56 : decode b_Mo_cell 56 = .ok (.iload_n 1, 1) := by decide +kernel
theorem d_Mo_cell_57 : decode b_Mo_cell 57 = .ok (.iaload, 1) := by decide +kernel
theorem d_Mo_cell_58 : decode b_Mo_cell 58 = .ok (.goto 4, 3) := by decide +kernel
theorem d_Mo_cell_61 : decode b_Mo_cell 61 = .ok (.iconst 0, 1) := by decide +kernel
theorem d_Mo_cell_62 : decode b_Mo_cell 62 = .ok (.ireturn, 1) := by decide +kernel

set_option maxHeartbeats 4000000 in
set_option maxRecDepth 100000 in
theorem c_Mo_cell (l : Launch) (G : nn_G) (sz : Nat) (h0 z1 z2 z3 z4 z5 z6 z7 z8 z9 z10 z11 z12 z13 z14 z15 z16 z17 : Nat) (k : Int32) : Met l y_Mo_cell w_Mo_cell ({ frames := 0, cells := 0, slots := 0, locals := 0 }) (nn_P G [.ref h0, .int k] [(h0, .inr (7, [.int 0, .int 0, .ref z1, .int 0, .int 0, .int 0, .int 0, .int 0, .int 0, .int (-1), .int (-1), .int 0, .ref z2, .ref z3, .ref z4, .int 0, .ref z5, .ref z6, .ref z7, .ref z8, .ref z9, .int 0, .int 0, .int 0, .int 0, .int 0, .ref z10, .ref z11, .ref z12, .int 0, .ref z13, .ref z14, .ref z15, .int 0, .int 0, .int 0, .int 0, .int (-1), .int 0, .int 0, .ref z16, .ref z17])), (z16, .inl (G.2 0, 200, .inl (fun _ => 0)))] sz) (va_Qi (fun (r : Int32) (u : Unit) => r = 0) (fun u t => True) (va_A [(h0, .inr (7, [.int 0, .int 0, .ref z1, .int 0, .int 0, .int 0, .int 0, .int 0, .int 0, .int (-1), .int (-1), .int 0, .ref z2, .ref z3, .ref z4, .int 0, .ref z5, .ref z6, .ref z7, .ref z8, .ref z9, .int 0, .int 0, .int 0, .int 0, .int 0, .ref z10, .ref z11, .ref z12, .int 0, .ref z13, .ref z14, .ref z15, .int 0, .int 0, .int 0, .int 0, .int (-1), .int 0, .int 0, .ref z16, .ref z17])), (z16, .inl (G.2 0, 200, .inl (fun _ => 0)))] sz)) 0 0 (va_A [(h0, .inr (7, [.int 0, .int 0, .ref z1, .int 0, .int 0, .int 0, .int 0, .int 0, .int 0, .int (-1), .int (-1), .int 0, .ref z2, .ref z3, .ref z4, .int 0, .ref z5, .ref z6, .ref z7, .ref z8, .ref z9, .int 0, .int 0, .int 0, .int 0, .int 0, .ref z10, .ref z11, .ref z12, .int 0, .ref z13, .ref z14, .ref z15, .int 0, .int 0, .int 0, .int 0, .int (-1), .int 0, .int 0, .ref z16, .ref z17])), (z16, .inl (G.2 0, 200, .inl (fun _ => 0)))] sz) := by
  refine Met.ofW (cc := b_Mo_cell) (maxL := 3) (ret := some .int) (by decide) rfl ?_
  intro p e s m args below meth c s₁ B hml hv
  obtain ⟨rfl, hsz, hP, hK, hD0, hN⟩ := hv
  have hx := B.exec
  have hb := B.bytes
  have hr := B.returns
  have hts := atoms_spec (ws := w_Mo_cell) B.pre
  have hg : ∀ w ∈ nn_gw, w.before _ s = true := fun w h => hts w (List.mem_cons_of_mem _ h)
  have hown : s.vm.findClass R_Mo = some m.cls := findClass_of_methodNamed B.named
  have hlocks := B.notSynchronized
  subst hsz
  have hD := hD0.self (sz := s.heap.size)
  generalize hAe : va_A [(h0, .inr (7, [.int 0, .int 0, .ref z1, .int 0, .int 0, .int 0, .int 0, .int 0, .int 0, .int (-1), .int (-1), .int 0, .ref z2, .ref z3, .ref z4, .int 0, .ref z5, .ref z6, .ref z7, .ref z8, .ref z9, .int 0, .int 0, .int 0, .int 0, .int 0, .ref z10, .ref z11, .ref z12, .int 0, .ref z13, .ref z14, .ref z15, .int 0, .int 0, .int 0, .int 0, .int (-1), .int 0, .int 0, .ref z16, .ref z17])), (z16, .inl (G.2 0, 200, .inl (fun _ => 0)))] s.heap.size = A at hD ⊢
  have hA : ∀ q : Nat, s.heap.size ≤ q → A q := fun q h => by rw [← hAe]; exact Or.inr h
  have hS : va_S A s.heap s.heap [] := va_S.rf
  have hP : va_P G.1 nn_cls [(h0, .inr (7, [.int 0, .int 0, .ref z1, .int 0, .int 0, .int 0, .int 0, .int 0, .int 0, .int (-1), .int (-1), .int 0, .ref z2, .ref z3, .ref z4, .int 0, .ref z5, .ref z6, .ref z7, .ref z8, .ref z9, .int 0, .int 0, .int 0, .int 0, .int 0, .ref z10, .ref z11, .ref z12, .int 0, .ref z13, .ref z14, .ref z15, .int 0, .int 0, .int 0, .int 0, .int (-1), .int 0, .int 0, .ref z16, .ref z17])), (z16, .inl (G.2 0, 200, .inl (fun _ => 0)))] s.heap := hP
  have hl := lv_entry ([.ref h0, .int k]) (n := 3) (Nat.le_of_ble_eq_true rfl)
  rw [lg_entry_eq]
  generalize (lg_sl ([.ref h0, .int k]) ++ List.replicate (3 - (lg_sl ([.ref h0, .int k])).length) Slot.unset).toArray = ls at hl ⊢
  have hl : lv_has ls 3 [(0, .ref h0), (1, .int k)] := hl
  refine lv_aload_n hx hb d_Mo_cell_0 rfl (lv_at hl 0 rfl) ?_
  refine lv_iconst (v := 0) hx hb d_Mo_cell_1 (by decide) ?_
  refine va_put (D := G.1) (ci := 7) (v := .int 0) (ty := .int) (C := R_Mo) (T := T_Mo) (N := 42) hx hb hg in_Mo t_Mo ok_Mo nm_Mo hown hK hP hD hS 0 rfl rfl 0 (by decide) (hg _ mw_890) (fun _ h9 => h9) rfl (by decide +kernel) rfl rfl (Nat.le_of_ble_eq_true rfl) d_Mo_cell_2 (fun H locs hP hD hS => ?_)
  have hP : va_P G.1 nn_cls [(h0, .inr (7, [.int 0, .int 0, .ref z1, .int 0, .int 0, .int 0, .int 0, .int 0, .int 0, .int (-1), .int (-1), .int 0, .ref z2, .ref z3, .ref z4, .int 0, .ref z5, .ref z6, .ref z7, .ref z8, .ref z9, .int 0, .int 0, .int 0, .int 0, .int 0, .ref z10, .ref z11, .ref z12, .int 0, .ref z13, .ref z14, .ref z15, .int 0, .int 0, .int 0, .int 0, .int (-1), .int 0, .int 0, .ref z16, .ref z17])), (z16, .inl (G.2 0, 200, .inl (fun _ => 0)))] H := hP
  have hD : va_D A [(h0, .inr (7, [.int 0, .int 0, .ref z1, .int 0, .int 0, .int 0, .int 0, .int 0, .int 0, .int (-1), .int (-1), .int 0, .ref z2, .ref z3, .ref z4, .int 0, .ref z5, .ref z6, .ref z7, .ref z8, .ref z9, .int 0, .int 0, .int 0, .int 0, .int 0, .ref z10, .ref z11, .ref z12, .int 0, .ref z13, .ref z14, .ref z15, .int 0, .int 0, .int 0, .int 0, .int (-1), .int 0, .int 0, .ref z16, .ref z17])), (z16, .inl (G.2 0, 200, .inl (fun _ => 0)))] := hD
  refine lv_iload_n hx hb d_Mo_cell_5 rfl (lv_at hl 1 rfl) ?_
  refine lv_if_lt (tgt := 46) hx hb d_Mo_cell_6 rfl (fun hc6 => ?_) (fun hc6 => ?_)
  · skip
    refine lv_iconst (v := 0) hx hb d_Mo_cell_46 (by decide) ?_
    refine lv_istore_n (lv' := [(2, .int 0), (0, .ref h0), (1, .int k)]) hx hb d_Mo_cell_47 rfl hl (by decide) rfl (fun ls hl => ?_)
    refine lv_iload_n hx hb d_Mo_cell_48 rfl (lv_at hl 0 rfl) ?_
    refine lv_if_eq (tgt := 61) hx hb d_Mo_cell_49 rfl (fun _ => ?_) (fun h => absurd (by decide) h)
    refine lv_iconst (v := 0) hx hb d_Mo_cell_61 (by decide) ?_
    refine W.widen (k := 0) (n := 0) (Nat.le_of_ble_eq_true rfl) (Nat.le_of_ble_eq_true rfl) ?_
    exact W.iret (v := 0) hx hb hr (fun t ht hW => ⟨⟨0, (), rfl, rfl, trivial⟩, hS.F ht⟩) hS.2.2 d_Mo_cell_62
  · skip
    refine lv_iload_n hx hb d_Mo_cell_9 rfl (lv_at hl 1 rfl) ?_
    refine lv_sipush (v := 200) hx hb d_Mo_cell_10 (by decide) ?_
    refine lv_icmp_ge (tgt := 46) hx hb d_Mo_cell_13 rfl (fun hc13 => ?_) (fun hc13 => ?_)
    · skip
      refine lv_iconst (v := 0) hx hb d_Mo_cell_46 (by decide) ?_
      refine lv_istore_n (lv' := [(2, .int 0), (0, .ref h0), (1, .int k)]) hx hb d_Mo_cell_47 rfl hl (by decide) rfl (fun ls hl => ?_)
      refine lv_iload_n hx hb d_Mo_cell_48 rfl (lv_at hl 0 rfl) ?_
      refine lv_if_eq (tgt := 61) hx hb d_Mo_cell_49 rfl (fun _ => ?_) (fun h => absurd (by decide) h)
      refine lv_iconst (v := 0) hx hb d_Mo_cell_61 (by decide) ?_
      refine W.widen (k := 0) (n := 0) (Nat.le_of_ble_eq_true rfl) (Nat.le_of_ble_eq_true rfl) ?_
      exact W.iret (v := 0) hx hb hr (fun t ht hW => ⟨⟨0, (), rfl, rfl, trivial⟩, hS.F ht⟩) hS.2.2 d_Mo_cell_62
    · skip
      refine lv_iload_n hx hb d_Mo_cell_16 rfl (lv_at hl 1 rfl) ?_
      refine lv_aload_n hx hb d_Mo_cell_17 rfl (lv_at hl 0 rfl) ?_
      refine va_get (D := G.1) (ci := 7) (v := .int (-1)) (C := R_Mo) (T := T_Mo) (N := 42) hx hb hg in_Mo hown hK hP 0 rfl rfl 37 (by decide) (hg _ mw_927) (fun _ h9 => h9) rfl d_Mo_cell_18 ?_
      refine lv_icmp_le (tgt := 42) hx hb d_Mo_cell_21 rfl (fun hc21 => ?_) (fun hc21 => ?_)
      · skip
        refine lv_iconst (v := 1) hx hb d_Mo_cell_42 (by decide) ?_
        refine lv_goto (tgt := 47) hx hb d_Mo_cell_43 rfl ?_
        refine lv_istore_n (lv' := [(2, .int 1), (0, .ref h0), (1, .int k)]) hx hb d_Mo_cell_47 rfl hl (by decide) rfl (fun ls hl => ?_)
        refine lv_iload_n hx hb d_Mo_cell_48 rfl (lv_at hl 0 rfl) ?_
        refine lv_if_eq (tgt := 61) hx hb d_Mo_cell_49 rfl (fun h => absurd h (by decide)) (fun _ => ?_)
        refine lv_aload_n hx hb d_Mo_cell_52 rfl (lv_at hl 1 rfl) ?_
        refine va_get (D := G.1) (ci := 7) (v := .ref z16) (C := R_Mo) (T := T_Mo) (N := 42) hx hb hg in_Mo hown hK hP 0 rfl rfl 40 (by decide) (hg _ mw_930) (fun _ h9 => h9) rfl d_Mo_cell_53 ?_
        refine lv_iload_n hx hb d_Mo_cell_56 rfl (lv_at hl 2 rfl) ?_
        refine va_iald hx hb hK hP 1 0 rfl rfl (nb_inr (n := 200) hc6 hc13 (by decide)) d_Mo_cell_57 ?_
        refine nb_top 0 rfl ?_
        refine lv_goto (tgt := 62) hx hb d_Mo_cell_58 rfl ?_
        refine W.widen (k := 0) (n := 0) (Nat.le_of_ble_eq_true rfl) (Nat.le_of_ble_eq_true rfl) ?_
        exact W.iret (v := 0) hx hb hr (fun t ht hW => ⟨⟨0, (), rfl, rfl, trivial⟩, hS.F ht⟩) hS.2.2 d_Mo_cell_62
      · skip
        refine lv_iload_n hx hb d_Mo_cell_24 rfl (lv_at hl 1 rfl) ?_
        refine lv_aload_n hx hb d_Mo_cell_25 rfl (lv_at hl 0 rfl) ?_
        refine va_get (D := G.1) (ci := 7) (v := .int 0) (C := R_Mo) (T := T_Mo) (N := 42) hx hb hg in_Mo hown hK hP 0 rfl rfl 36 (by decide) (hg _ mw_926) (fun _ h9 => h9) rfl d_Mo_cell_26 ?_
        refine lv_icmp_lt (tgt := 46) hx hb d_Mo_cell_29 rfl (fun hc29 => ?_) (fun hc29 => ?_)
        · skip
          refine lv_iconst (v := 0) hx hb d_Mo_cell_46 (by decide) ?_
          refine lv_istore_n (lv' := [(2, .int 0), (0, .ref h0), (1, .int k)]) hx hb d_Mo_cell_47 rfl hl (by decide) rfl (fun ls hl => ?_)
          refine lv_iload_n hx hb d_Mo_cell_48 rfl (lv_at hl 0 rfl) ?_
          refine lv_if_eq (tgt := 61) hx hb d_Mo_cell_49 rfl (fun _ => ?_) (fun h => absurd (by decide) h)
          refine lv_iconst (v := 0) hx hb d_Mo_cell_61 (by decide) ?_
          refine W.widen (k := 0) (n := 0) (Nat.le_of_ble_eq_true rfl) (Nat.le_of_ble_eq_true rfl) ?_
          exact W.iret (v := 0) hx hb hr (fun t ht hW => ⟨⟨0, (), rfl, rfl, trivial⟩, hS.F ht⟩) hS.2.2 d_Mo_cell_62
        · skip
          refine lv_iload_n hx hb d_Mo_cell_32 rfl (lv_at hl 1 rfl) ?_
          refine lv_aload_n hx hb d_Mo_cell_33 rfl (lv_at hl 0 rfl) ?_
          refine va_get (D := G.1) (ci := 7) (v := .int 0) (C := R_Mo) (T := T_Mo) (N := 42) hx hb hg in_Mo hown hK hP 0 rfl rfl 36 (by decide) (hg _ mw_926) (fun _ h9 => h9) rfl d_Mo_cell_34 ?_
          refine lv_iconst (v := 3) hx hb d_Mo_cell_37 (by decide) ?_
          refine lv_iadd hx hb d_Mo_cell_38 ?_
          refine nb_top 3 (by decide) ?_
          refine lv_icmp_ge (tgt := 46) hx hb d_Mo_cell_39 rfl (fun hc39 => ?_) (fun hc39 => ?_)
          · skip
            refine lv_iconst (v := 0) hx hb d_Mo_cell_46 (by decide) ?_
            refine lv_istore_n (lv' := [(2, .int 0), (0, .ref h0), (1, .int k)]) hx hb d_Mo_cell_47 rfl hl (by decide) rfl (fun ls hl => ?_)
            refine lv_iload_n hx hb d_Mo_cell_48 rfl (lv_at hl 0 rfl) ?_
            refine lv_if_eq (tgt := 61) hx hb d_Mo_cell_49 rfl (fun _ => ?_) (fun h => absurd (by decide) h)
            refine lv_iconst (v := 0) hx hb d_Mo_cell_61 (by decide) ?_
            refine W.widen (k := 0) (n := 0) (Nat.le_of_ble_eq_true rfl) (Nat.le_of_ble_eq_true rfl) ?_
            exact W.iret (v := 0) hx hb hr (fun t ht hW => ⟨⟨0, (), rfl, rfl, trivial⟩, hS.F ht⟩) hS.2.2 d_Mo_cell_62
          · skip
            refine lv_iconst (v := 1) hx hb d_Mo_cell_42 (by decide) ?_
            refine lv_goto (tgt := 47) hx hb d_Mo_cell_43 rfl ?_
            refine lv_istore_n (lv' := [(2, .int 1), (0, .ref h0), (1, .int k)]) hx hb d_Mo_cell_47 rfl hl (by decide) rfl (fun ls hl => ?_)
            refine lv_iload_n hx hb d_Mo_cell_48 rfl (lv_at hl 0 rfl) ?_
            refine lv_if_eq (tgt := 61) hx hb d_Mo_cell_49 rfl (fun h => absurd h (by decide)) (fun _ => ?_)
            refine lv_aload_n hx hb d_Mo_cell_52 rfl (lv_at hl 1 rfl) ?_
            refine va_get (D := G.1) (ci := 7) (v := .ref z16) (C := R_Mo) (T := T_Mo) (N := 42) hx hb hg in_Mo hown hK hP 0 rfl rfl 40 (by decide) (hg _ mw_930) (fun _ h9 => h9) rfl d_Mo_cell_53 ?_
            refine lv_iload_n hx hb d_Mo_cell_56 rfl (lv_at hl 2 rfl) ?_
            refine va_iald hx hb hK hP 1 0 rfl rfl (nb_inr (n := 200) hc6 hc13 (by decide)) d_Mo_cell_57 ?_
            refine nb_top 0 rfl ?_
            refine lv_goto (tgt := 62) hx hb d_Mo_cell_58 rfl ?_
            refine W.widen (k := 0) (n := 0) (Nat.le_of_ble_eq_true rfl) (Nat.le_of_ble_eq_true rfl) ?_
            exact W.iret (v := 0) hx hb hr (fun t ht hW => ⟨⟨0, (), rfl, rfl, trivial⟩, hS.F ht⟩) hS.2.2 d_Mo_cell_62

theorem d_Mo_written_0 : decode b_Mo_written 0 = .ok (.aload_n 0, 1) := by decide +kernel
theorem d_Mo_written_1 : decode b_Mo_written 1 = .ok (.iconst 0, 1) := by decide +kernel
theorem d_Mo_written_2 : decode b_Mo_written 2 = .ok (.putfield 72, 3) := by decide +kernel
theorem d_Mo_written_5 : decode b_Mo_written 5 = .ok (.iload_n 1, 1) := by decide +kernel
theorem d_Mo_written_6 : decode b_Mo_written 6 = .ok (.ifCond .lt 18, 3) := by decide +kernel
theorem d_Mo_written_9 : decode b_Mo_written 9 = .ok (.iload_n 1, 1) := by decide +kernel
theorem d_Mo_written_10 : decode b_Mo_written 10 = .ok (.bipush 8, 2) := by decide +kernel
theorem d_Mo_written_12 : decode b_Mo_written 12 = .ok (.if_icmp .ge 12, 3) := by decide +kernel
theorem d_Mo_written_15 : decode b_Mo_written 15 = .ok (.aload_n 0, 1) := by decide +kernel
theorem d_Mo_written_16 : decode b_Mo_written 16 = .ok (.getfield 69, 3) := by decide +kernel
theorem d_Mo_written_19 : decode b_Mo_written 19 = .ok (.iload_n 1, 1) := by decide +kernel
theorem d_Mo_written_20 : decode b_Mo_written 20 = .ok (.iaload, 1) := by decide +kernel
theorem d_Mo_written_21 : decode b_Mo_written 21 = .ok (.goto 4, 3) := by decide +kernel
theorem d_Mo_written_24 : decode b_Mo_written 24 = .ok (.iconst 0, 1) := by decide +kernel
theorem d_Mo_written_25 : decode b_Mo_written 25 = .ok (.ireturn, 1) := by decide +kernel

set_option maxHeartbeats 4000000 in
set_option maxRecDepth 100000 in
theorem c_Mo_written (l : Launch) (G : nn_G) (sz : Nat) (h0 z1 z2 z3 z4 z5 z6 z7 z8 z9 z10 z11 z12 z13 z14 z15 z16 z17 : Nat) (k : Int32) : Met l y_Mo_written w_Mo_written ({ frames := 0, cells := 0, slots := 0, locals := 0 }) (nn_P G [.ref h0, .int k] [(h0, .inr (7, [.int 0, .int 0, .ref z1, .int 0, .int 0, .int 0, .int 0, .int 0, .int 0, .int (-1), .int (-1), .int 0, .ref z2, .ref z3, .ref z4, .int 0, .ref z5, .ref z6, .ref z7, .ref z8, .ref z9, .int 0, .int 0, .int 0, .int 0, .int 0, .ref z10, .ref z11, .ref z12, .int 0, .ref z13, .ref z14, .ref z15, .int 0, .int 0, .int 0, .int 0, .int (-1), .int 0, .int 0, .ref z16, .ref z17])), (z17, .inl (G.2 0, 8, .inl (fun _ => 0)))] sz) (va_Qi (fun (r : Int32) (u : Unit) => r = 0) (fun u t => True) (va_A [(h0, .inr (7, [.int 0, .int 0, .ref z1, .int 0, .int 0, .int 0, .int 0, .int 0, .int 0, .int (-1), .int (-1), .int 0, .ref z2, .ref z3, .ref z4, .int 0, .ref z5, .ref z6, .ref z7, .ref z8, .ref z9, .int 0, .int 0, .int 0, .int 0, .int 0, .ref z10, .ref z11, .ref z12, .int 0, .ref z13, .ref z14, .ref z15, .int 0, .int 0, .int 0, .int 0, .int (-1), .int 0, .int 0, .ref z16, .ref z17])), (z17, .inl (G.2 0, 8, .inl (fun _ => 0)))] sz)) 0 0 (va_A [(h0, .inr (7, [.int 0, .int 0, .ref z1, .int 0, .int 0, .int 0, .int 0, .int 0, .int 0, .int (-1), .int (-1), .int 0, .ref z2, .ref z3, .ref z4, .int 0, .ref z5, .ref z6, .ref z7, .ref z8, .ref z9, .int 0, .int 0, .int 0, .int 0, .int 0, .ref z10, .ref z11, .ref z12, .int 0, .ref z13, .ref z14, .ref z15, .int 0, .int 0, .int 0, .int 0, .int (-1), .int 0, .int 0, .ref z16, .ref z17])), (z17, .inl (G.2 0, 8, .inl (fun _ => 0)))] sz) := by
  refine Met.ofW (cc := b_Mo_written) (maxL := 2) (ret := some .int) (by decide) rfl ?_
  intro p e s m args below meth c s₁ B hml hv
  obtain ⟨rfl, hsz, hP, hK, hD0, hN⟩ := hv
  have hx := B.exec
  have hb := B.bytes
  have hr := B.returns
  have hts := atoms_spec (ws := w_Mo_written) B.pre
  have hg : ∀ w ∈ nn_gw, w.before _ s = true := fun w h => hts w (List.mem_cons_of_mem _ h)
  have hown : s.vm.findClass R_Mo = some m.cls := findClass_of_methodNamed B.named
  have hlocks := B.notSynchronized
  subst hsz
  have hD := hD0.self (sz := s.heap.size)
  generalize hAe : va_A [(h0, .inr (7, [.int 0, .int 0, .ref z1, .int 0, .int 0, .int 0, .int 0, .int 0, .int 0, .int (-1), .int (-1), .int 0, .ref z2, .ref z3, .ref z4, .int 0, .ref z5, .ref z6, .ref z7, .ref z8, .ref z9, .int 0, .int 0, .int 0, .int 0, .int 0, .ref z10, .ref z11, .ref z12, .int 0, .ref z13, .ref z14, .ref z15, .int 0, .int 0, .int 0, .int 0, .int (-1), .int 0, .int 0, .ref z16, .ref z17])), (z17, .inl (G.2 0, 8, .inl (fun _ => 0)))] s.heap.size = A at hD ⊢
  have hA : ∀ q : Nat, s.heap.size ≤ q → A q := fun q h => by rw [← hAe]; exact Or.inr h
  have hS : va_S A s.heap s.heap [] := va_S.rf
  have hP : va_P G.1 nn_cls [(h0, .inr (7, [.int 0, .int 0, .ref z1, .int 0, .int 0, .int 0, .int 0, .int 0, .int 0, .int (-1), .int (-1), .int 0, .ref z2, .ref z3, .ref z4, .int 0, .ref z5, .ref z6, .ref z7, .ref z8, .ref z9, .int 0, .int 0, .int 0, .int 0, .int 0, .ref z10, .ref z11, .ref z12, .int 0, .ref z13, .ref z14, .ref z15, .int 0, .int 0, .int 0, .int 0, .int (-1), .int 0, .int 0, .ref z16, .ref z17])), (z17, .inl (G.2 0, 8, .inl (fun _ => 0)))] s.heap := hP
  have hl := lv_entry ([.ref h0, .int k]) (n := 2) (Nat.le_of_ble_eq_true rfl)
  rw [lg_entry_eq]
  generalize (lg_sl ([.ref h0, .int k]) ++ List.replicate (2 - (lg_sl ([.ref h0, .int k])).length) Slot.unset).toArray = ls at hl ⊢
  have hl : lv_has ls 2 [(0, .ref h0), (1, .int k)] := hl
  refine lv_aload_n hx hb d_Mo_written_0 rfl (lv_at hl 0 rfl) ?_
  refine lv_iconst (v := 0) hx hb d_Mo_written_1 (by decide) ?_
  refine va_put (D := G.1) (ci := 7) (v := .int 0) (ty := .int) (C := R_Mo) (T := T_Mo) (N := 42) hx hb hg in_Mo t_Mo ok_Mo nm_Mo hown hK hP hD hS 0 rfl rfl 0 (by decide) (hg _ mw_890) (fun _ h9 => h9) rfl (by decide +kernel) rfl rfl (Nat.le_of_ble_eq_true rfl) d_Mo_written_2 (fun H locs hP hD hS => ?_)
  have hP : va_P G.1 nn_cls [(h0, .inr (7, [.int 0, .int 0, .ref z1, .int 0, .int 0, .int 0, .int 0, .int 0, .int 0, .int (-1), .int (-1), .int 0, .ref z2, .ref z3, .ref z4, .int 0, .ref z5, .ref z6, .ref z7, .ref z8, .ref z9, .int 0, .int 0, .int 0, .int 0, .int 0, .ref z10, .ref z11, .ref z12, .int 0, .ref z13, .ref z14, .ref z15, .int 0, .int 0, .int 0, .int 0, .int (-1), .int 0, .int 0, .ref z16, .ref z17])), (z17, .inl (G.2 0, 8, .inl (fun _ => 0)))] H := hP
  have hD : va_D A [(h0, .inr (7, [.int 0, .int 0, .ref z1, .int 0, .int 0, .int 0, .int 0, .int 0, .int 0, .int (-1), .int (-1), .int 0, .ref z2, .ref z3, .ref z4, .int 0, .ref z5, .ref z6, .ref z7, .ref z8, .ref z9, .int 0, .int 0, .int 0, .int 0, .int 0, .ref z10, .ref z11, .ref z12, .int 0, .ref z13, .ref z14, .ref z15, .int 0, .int 0, .int 0, .int 0, .int (-1), .int 0, .int 0, .ref z16, .ref z17])), (z17, .inl (G.2 0, 8, .inl (fun _ => 0)))] := hD
  refine lv_iload_n hx hb d_Mo_written_5 rfl (lv_at hl 1 rfl) ?_
  refine lv_if_lt (tgt := 24) hx hb d_Mo_written_6 rfl (fun hc6 => ?_) (fun hc6 => ?_)
  · skip
    refine lv_iconst (v := 0) hx hb d_Mo_written_24 (by decide) ?_
    refine W.widen (k := 0) (n := 0) (Nat.le_of_ble_eq_true rfl) (Nat.le_of_ble_eq_true rfl) ?_
    exact W.iret (v := 0) hx hb hr (fun t ht hW => ⟨⟨0, (), rfl, rfl, trivial⟩, hS.F ht⟩) hS.2.2 d_Mo_written_25
  · skip
    refine lv_iload_n hx hb d_Mo_written_9 rfl (lv_at hl 1 rfl) ?_
    refine lv_bipush (v := 8) hx hb d_Mo_written_10 (by decide) ?_
    refine lv_icmp_ge (tgt := 24) hx hb d_Mo_written_12 rfl (fun hc12 => ?_) (fun hc12 => ?_)
    · skip
      refine lv_iconst (v := 0) hx hb d_Mo_written_24 (by decide) ?_
      refine W.widen (k := 0) (n := 0) (Nat.le_of_ble_eq_true rfl) (Nat.le_of_ble_eq_true rfl) ?_
      exact W.iret (v := 0) hx hb hr (fun t ht hW => ⟨⟨0, (), rfl, rfl, trivial⟩, hS.F ht⟩) hS.2.2 d_Mo_written_25
    · skip
      refine lv_aload_n hx hb d_Mo_written_15 rfl (lv_at hl 0 rfl) ?_
      refine va_get (D := G.1) (ci := 7) (v := .ref z17) (C := R_Mo) (T := T_Mo) (N := 42) hx hb hg in_Mo hown hK hP 0 rfl rfl 41 (by decide) (hg _ mw_931) (fun _ h9 => h9) rfl d_Mo_written_16 ?_
      refine lv_iload_n hx hb d_Mo_written_19 rfl (lv_at hl 1 rfl) ?_
      refine va_iald hx hb hK hP 1 0 rfl rfl (nb_inr (n := 8) hc6 hc12 (by decide)) d_Mo_written_20 ?_
      refine nb_top 0 rfl ?_
      refine lv_goto (tgt := 25) hx hb d_Mo_written_21 rfl ?_
      refine W.widen (k := 0) (n := 0) (Nat.le_of_ble_eq_true rfl) (Nat.le_of_ble_eq_true rfl) ?_
      exact W.iret (v := 0) hx hb hr (fun t ht hW => ⟨⟨0, (), rfl, rfl, trivial⟩, hS.F ht⟩) hS.2.2 d_Mo_written_25

theorem d_Mo_variable_0 : decode b_Mo_variable 0 = .ok (.aload_n 0, 1) := by decide +kernel
theorem d_Mo_variable_1 : decode b_Mo_variable 1 = .ok (.iconst 0, 1) := by decide +kernel
theorem d_Mo_variable_2 : decode b_Mo_variable 2 = .ok (.putfield 72, 3) := by decide +kernel
theorem d_Mo_variable_5 : decode b_Mo_variable 5 = .ok (.aload_n 0, 1) := by decide +kernel
theorem d_Mo_variable_6 : decode b_Mo_variable 6 = .ok (.getfield 239, 3) := by decide +kernel
theorem d_Mo_variable_9 : decode b_Mo_variable 9 = .ok (.iconst 1, 1) := by decide +kernel
theorem d_Mo_variable_10 : decode b_Mo_variable 10 = .ok (.if_icmp .ne 7, 3) := by decide +kernel
theorem d_Mo_variable_17 : decode b_Mo_variable 17 = .ok (.iconst 0, 1) := by decide +kernel
theorem d_Mo_variable_18 : decode b_Mo_variable 18 = .ok (.ireturn, 1) := by decide +kernel

set_option maxHeartbeats 4000000 in
set_option maxRecDepth 100000 in
theorem c_Mo_variable (l : Launch) (G : nn_G) (sz : Nat) (h0 z1 z2 z3 z4 z5 z6 z7 z8 z9 z10 z11 z12 z13 z14 z15 z16 z17 : Nat) (i j : Int32) : Met l y_Mo_variable w_Mo_variable ({ frames := 0, cells := 0, slots := 0, locals := 0 }) (nn_P G [.ref h0, .int i, .int j] [(h0, .inr (7, [.int 0, .int 0, .ref z1, .int 0, .int 0, .int 0, .int 0, .int 0, .int 0, .int (-1), .int (-1), .int 0, .ref z2, .ref z3, .ref z4, .int 0, .ref z5, .ref z6, .ref z7, .ref z8, .ref z9, .int 0, .int 0, .int 0, .int 0, .int 0, .ref z10, .ref z11, .ref z12, .int 0, .ref z13, .ref z14, .ref z15, .int 0, .int 0, .int 0, .int 0, .int (-1), .int 0, .int 0, .ref z16, .ref z17]))] sz) (va_Qi (fun (r : Int32) (u : Unit) => r = 0) (fun u t => True) (va_A [(h0, .inr (7, [.int 0, .int 0, .ref z1, .int 0, .int 0, .int 0, .int 0, .int 0, .int 0, .int (-1), .int (-1), .int 0, .ref z2, .ref z3, .ref z4, .int 0, .ref z5, .ref z6, .ref z7, .ref z8, .ref z9, .int 0, .int 0, .int 0, .int 0, .int 0, .ref z10, .ref z11, .ref z12, .int 0, .ref z13, .ref z14, .ref z15, .int 0, .int 0, .int 0, .int 0, .int (-1), .int 0, .int 0, .ref z16, .ref z17]))] sz)) 0 0 (va_A [(h0, .inr (7, [.int 0, .int 0, .ref z1, .int 0, .int 0, .int 0, .int 0, .int 0, .int 0, .int (-1), .int (-1), .int 0, .ref z2, .ref z3, .ref z4, .int 0, .ref z5, .ref z6, .ref z7, .ref z8, .ref z9, .int 0, .int 0, .int 0, .int 0, .int 0, .ref z10, .ref z11, .ref z12, .int 0, .ref z13, .ref z14, .ref z15, .int 0, .int 0, .int 0, .int 0, .int (-1), .int 0, .int 0, .ref z16, .ref z17]))] sz) := by
  refine Met.ofW (cc := b_Mo_variable) (maxL := 7) (ret := some .int) (by decide) rfl ?_
  intro p e s m args below meth c s₁ B hml hv
  obtain ⟨rfl, hsz, hP, hK, hD0, hN⟩ := hv
  have hx := B.exec
  have hb := B.bytes
  have hr := B.returns
  have hts := atoms_spec (ws := w_Mo_variable) B.pre
  have hg : ∀ w ∈ nn_gw, w.before _ s = true := fun w h => hts w (List.mem_cons_of_mem _ h)
  have hown : s.vm.findClass R_Mo = some m.cls := findClass_of_methodNamed B.named
  have hlocks := B.notSynchronized
  subst hsz
  have hD := hD0.self (sz := s.heap.size)
  generalize hAe : va_A [(h0, .inr (7, [.int 0, .int 0, .ref z1, .int 0, .int 0, .int 0, .int 0, .int 0, .int 0, .int (-1), .int (-1), .int 0, .ref z2, .ref z3, .ref z4, .int 0, .ref z5, .ref z6, .ref z7, .ref z8, .ref z9, .int 0, .int 0, .int 0, .int 0, .int 0, .ref z10, .ref z11, .ref z12, .int 0, .ref z13, .ref z14, .ref z15, .int 0, .int 0, .int 0, .int 0, .int (-1), .int 0, .int 0, .ref z16, .ref z17]))] s.heap.size = A at hD ⊢
  have hA : ∀ q : Nat, s.heap.size ≤ q → A q := fun q h => by rw [← hAe]; exact Or.inr h
  have hS : va_S A s.heap s.heap [] := va_S.rf
  have hP : va_P G.1 nn_cls [(h0, .inr (7, [.int 0, .int 0, .ref z1, .int 0, .int 0, .int 0, .int 0, .int 0, .int 0, .int (-1), .int (-1), .int 0, .ref z2, .ref z3, .ref z4, .int 0, .ref z5, .ref z6, .ref z7, .ref z8, .ref z9, .int 0, .int 0, .int 0, .int 0, .int 0, .ref z10, .ref z11, .ref z12, .int 0, .ref z13, .ref z14, .ref z15, .int 0, .int 0, .int 0, .int 0, .int (-1), .int 0, .int 0, .ref z16, .ref z17]))] s.heap := hP
  have hl := lv_entry ([.ref h0, .int i, .int j]) (n := 7) (Nat.le_of_ble_eq_true rfl)
  rw [lg_entry_eq]
  generalize (lg_sl ([.ref h0, .int i, .int j]) ++ List.replicate (7 - (lg_sl ([.ref h0, .int i, .int j])).length) Slot.unset).toArray = ls at hl ⊢
  have hl : lv_has ls 7 [(0, .ref h0), (1, .int i), (2, .int j)] := hl
  refine lv_aload_n hx hb d_Mo_variable_0 rfl (lv_at hl 0 rfl) ?_
  refine lv_iconst (v := 0) hx hb d_Mo_variable_1 (by decide) ?_
  refine va_put (D := G.1) (ci := 7) (v := .int 0) (ty := .int) (C := R_Mo) (T := T_Mo) (N := 42) hx hb hg in_Mo t_Mo ok_Mo nm_Mo hown hK hP hD hS 0 rfl rfl 0 (by decide) (hg _ mw_890) (fun _ h9 => h9) rfl (by decide +kernel) rfl rfl (Nat.le_of_ble_eq_true rfl) d_Mo_variable_2 (fun H locs hP hD hS => ?_)
  have hP : va_P G.1 nn_cls [(h0, .inr (7, [.int 0, .int 0, .ref z1, .int 0, .int 0, .int 0, .int 0, .int 0, .int 0, .int (-1), .int (-1), .int 0, .ref z2, .ref z3, .ref z4, .int 0, .ref z5, .ref z6, .ref z7, .ref z8, .ref z9, .int 0, .int 0, .int 0, .int 0, .int 0, .ref z10, .ref z11, .ref z12, .int 0, .ref z13, .ref z14, .ref z15, .int 0, .int 0, .int 0, .int 0, .int (-1), .int 0, .int 0, .ref z16, .ref z17]))] H := hP
  have hD : va_D A [(h0, .inr (7, [.int 0, .int 0, .ref z1, .int 0, .int 0, .int 0, .int 0, .int 0, .int 0, .int (-1), .int (-1), .int 0, .ref z2, .ref z3, .ref z4, .int 0, .ref z5, .ref z6, .ref z7, .ref z8, .ref z9, .int 0, .int 0, .int 0, .int 0, .int 0, .ref z10, .ref z11, .ref z12, .int 0, .ref z13, .ref z14, .ref z15, .int 0, .int 0, .int 0, .int 0, .int (-1), .int 0, .int 0, .ref z16, .ref z17]))] := hD
  refine lv_aload_n hx hb d_Mo_variable_5 rfl (lv_at hl 0 rfl) ?_
  refine va_get (D := G.1) (ci := 7) (v := .int 0) (C := R_Mo) (T := T_Mo) (N := 42) hx hb hg in_Mo hown hK hP 0 rfl rfl 34 (by decide) (hg _ mw_924) (fun _ h9 => h9) rfl d_Mo_variable_6 ?_
  refine lv_iconst (v := 1) hx hb d_Mo_variable_9 (by decide) ?_
  refine lv_icmp_ne (tgt := 17) hx hb d_Mo_variable_10 rfl (fun _ => ?_) (fun h => absurd h (by decide))
  refine lv_iconst (v := 0) hx hb d_Mo_variable_17 (by decide) ?_
  refine W.widen (k := 0) (n := 0) (Nat.le_of_ble_eq_true rfl) (Nat.le_of_ble_eq_true rfl) ?_
  exact W.iret (v := 0) hx hb hr (fun t ht hW => ⟨⟨0, (), rfl, rfl, trivial⟩, hS.F ht⟩) hS.2.2 d_Mo_variable_18

theorem d_Mo_run_0 : decode b_Mo_run 0 = .ok (.aload_n 0, 1) := by decide +kernel
theorem d_Mo_run_1 : decode b_Mo_run 1 = .ok (.iload_n 1, 1) := by decide +kernel
theorem d_Mo_run_2 : decode b_Mo_run 2 = .ok (.ifCond .lt 10, 3) := by decide +kernel
theorem d_Mo_run_5 : decode b_Mo_run 5 = .ok (.iload_n 1, 1) := by decide +kernel
theorem d_Mo_run_6 : decode b_Mo_run 6 = .ok (.sipush 200, 3) := by decide +kernel
theorem d_Mo_run_9 : decode b_Mo_run 9 = .ok (.if_icmp .le 7, 3) := by decide +kernel
theorem d_Mo_run_16 : decode b_Mo_run 16 = .ok (.iconst 0, 1) := by decide +kernel
theorem d_Mo_run_17 : decode b_Mo_run 17 = .ok (.putfield 72, 3) := by decide +kernel
theorem d_Mo_run_20 : decode b_Mo_run 20 = .ok (.iconst 0, 1) := by decide +kernel
theorem d_Mo_run_21 : decode b_Mo_run 21 = .ok (.istore_n 2, 1) := by decide +kernel
theorem d_Mo_run_22 : decode b_Mo_run 22 = .ok (.aload_n 0, 1) := by decide +kernel
theorem d_Mo_run_23 : decode b_Mo_run 23 = .ok (.getfield 72, 3) := by decide +kernel
theorem d_Mo_run_26 : decode b_Mo_run 26 = .ok (.ifCond .ne 26, 3) := by decide +kernel
theorem d_Mo_run_29 : decode b_Mo_run 29 = .ok (.iload_n 2, 1) := by decide +kernel
theorem d_Mo_run_30 : decode b_Mo_run 30 = .ok (.iload_n 1, 1) := by decide +kernel
theorem d_Mo_run_31 : decode b_Mo_run 31 = .ok (.if_icmp .ge 21, 3) := by decide +kernel
theorem d_Mo_run_34 : decode b_Mo_run 34 = .ok (.aload_n 0, 1) := by decide +kernel
theorem d_Mo_run_35 : decode b_Mo_run 35 = .ok (.getfield 239, 3) := by decide +kernel
theorem d_Mo_run_38 : decode b_Mo_run 38 = .ok (.iconst 1, 1) := by decide +kernel
theorem d_Mo_run_39 : decode b_Mo_run 39 = .ok (.if_icmp .ne 13, 3) := by decide +kernel
theorem d_Mo_run_52 : decode b_Mo_run 52 = .ok (.iload_n 2, 1) := by decide +kernel
theorem d_Mo_run_53 : decode b_Mo_run 53 = .ok (.ireturn, 1) := by decide +kernel

set_option maxHeartbeats 4000000 in
set_option maxRecDepth 100000 in
theorem c_Mo_run0 (l : Launch) (G : nn_G) (sz : Nat) (h0 z1 z2 z3 z4 z5 z6 z7 z8 z9 z10 z11 z12 z13 z14 z15 z16 z17 : Nat) (n : Int32) (hn0 : ¬ n < 0) (hn1 : n ≤ 200) : Met l y_Mo_run w_Mo_run ({ frames := 0, cells := 0, slots := 0, locals := 0 }) (nn_P G [.ref h0, .int n] [(h0, .inr (7, [.int 0, .int 0, .ref z1, .int 0, .int 0, .int 0, .int 0, .int 0, .int 0, .int (-1), .int (-1), .int 0, .ref z2, .ref z3, .ref z4, .int 0, .ref z5, .ref z6, .ref z7, .ref z8, .ref z9, .int 0, .int 0, .int 0, .int 0, .int 0, .ref z10, .ref z11, .ref z12, .int 0, .ref z13, .ref z14, .ref z15, .int 0, .int 0, .int 0, .int 0, .int (-1), .int 0, .int 0, .ref z16, .ref z17]))] sz) (va_Qi (fun (r : Int32) (u : Unit) => r = 0) (fun u t => va_P G.1 nn_cls [(h0, .inr (7, [.int 0, .int 0, .ref z1, .int 0, .int 0, .int 0, .int 0, .int 0, .int 0, .int (-1), .int (-1), .int 0, .ref z2, .ref z3, .ref z4, .int 0, .ref z5, .ref z6, .ref z7, .ref z8, .ref z9, .int 0, .int 0, .int 0, .int 0, .int 0, .ref z10, .ref z11, .ref z12, .int 0, .ref z13, .ref z14, .ref z15, .int 0, .int 0, .int 0, .int 0, .int (-1), .int 0, .int 0, .ref z16, .ref z17]))] t.heap ∧ va_D (va_A [(h0, .inr (7, [.int 0, .int 0, .ref z1, .int 0, .int 0, .int 0, .int 0, .int 0, .int 0, .int (-1), .int (-1), .int 0, .ref z2, .ref z3, .ref z4, .int 0, .ref z5, .ref z6, .ref z7, .ref z8, .ref z9, .int 0, .int 0, .int 0, .int 0, .int 0, .ref z10, .ref z11, .ref z12, .int 0, .ref z13, .ref z14, .ref z15, .int 0, .int 0, .int 0, .int 0, .int (-1), .int 0, .int 0, .ref z16, .ref z17]))] sz) [(h0, .inr (7, [.int 0, .int 0, .ref z1, .int 0, .int 0, .int 0, .int 0, .int 0, .int 0, .int (-1), .int (-1), .int 0, .ref z2, .ref z3, .ref z4, .int 0, .ref z5, .ref z6, .ref z7, .ref z8, .ref z9, .int 0, .int 0, .int 0, .int 0, .int 0, .ref z10, .ref z11, .ref z12, .int 0, .ref z13, .ref z14, .ref z15, .int 0, .int 0, .int 0, .int 0, .int (-1), .int 0, .int 0, .ref z16, .ref z17]))]) (va_A [(h0, .inr (7, [.int 0, .int 0, .ref z1, .int 0, .int 0, .int 0, .int 0, .int 0, .int 0, .int (-1), .int (-1), .int 0, .ref z2, .ref z3, .ref z4, .int 0, .ref z5, .ref z6, .ref z7, .ref z8, .ref z9, .int 0, .int 0, .int 0, .int 0, .int 0, .ref z10, .ref z11, .ref z12, .int 0, .ref z13, .ref z14, .ref z15, .int 0, .int 0, .int 0, .int 0, .int (-1), .int 0, .int 0, .ref z16, .ref z17]))] sz)) 0 0 (va_A [(h0, .inr (7, [.int 0, .int 0, .ref z1, .int 0, .int 0, .int 0, .int 0, .int 0, .int 0, .int (-1), .int (-1), .int 0, .ref z2, .ref z3, .ref z4, .int 0, .ref z5, .ref z6, .ref z7, .ref z8, .ref z9, .int 0, .int 0, .int 0, .int 0, .int 0, .ref z10, .ref z11, .ref z12, .int 0, .ref z13, .ref z14, .ref z15, .int 0, .int 0, .int 0, .int 0, .int (-1), .int 0, .int 0, .ref z16, .ref z17]))] sz) := by
  refine Met.ofW (cc := b_Mo_run) (maxL := 3) (ret := some .int) (by decide) rfl ?_
  intro p e s m args below meth c s₁ B hml hv
  obtain ⟨rfl, hsz, hP, hK, hD0, hN⟩ := hv
  have hx := B.exec
  have hb := B.bytes
  have hr := B.returns
  have hts := atoms_spec (ws := w_Mo_run) B.pre
  have hg : ∀ w ∈ nn_gw, w.before _ s = true := fun w h => hts w (List.mem_cons_of_mem _ h)
  have hown : s.vm.findClass R_Mo = some m.cls := findClass_of_methodNamed B.named
  have hlocks := B.notSynchronized
  subst hsz
  have hD := hD0.self (sz := s.heap.size)
  generalize hAe : va_A [(h0, .inr (7, [.int 0, .int 0, .ref z1, .int 0, .int 0, .int 0, .int 0, .int 0, .int 0, .int (-1), .int (-1), .int 0, .ref z2, .ref z3, .ref z4, .int 0, .ref z5, .ref z6, .ref z7, .ref z8, .ref z9, .int 0, .int 0, .int 0, .int 0, .int 0, .ref z10, .ref z11, .ref z12, .int 0, .ref z13, .ref z14, .ref z15, .int 0, .int 0, .int 0, .int 0, .int (-1), .int 0, .int 0, .ref z16, .ref z17]))] s.heap.size = A at hD ⊢
  have hA : ∀ q : Nat, s.heap.size ≤ q → A q := fun q h => by rw [← hAe]; exact Or.inr h
  have hS : va_S A s.heap s.heap [] := va_S.rf
  have hP : va_P G.1 nn_cls [(h0, .inr (7, [.int 0, .int 0, .ref z1, .int 0, .int 0, .int 0, .int 0, .int 0, .int 0, .int (-1), .int (-1), .int 0, .ref z2, .ref z3, .ref z4, .int 0, .ref z5, .ref z6, .ref z7, .ref z8, .ref z9, .int 0, .int 0, .int 0, .int 0, .int 0, .ref z10, .ref z11, .ref z12, .int 0, .ref z13, .ref z14, .ref z15, .int 0, .int 0, .int 0, .int 0, .int (-1), .int 0, .int 0, .ref z16, .ref z17]))] s.heap := hP
  have hl := lv_entry ([.ref h0, .int n]) (n := 3) (Nat.le_of_ble_eq_true rfl)
  rw [lg_entry_eq]
  generalize (lg_sl ([.ref h0, .int n]) ++ List.replicate (3 - (lg_sl ([.ref h0, .int n])).length) Slot.unset).toArray = ls at hl ⊢
  have hl : lv_has ls 3 [(0, .ref h0), (1, .int n)] := hl
  refine lv_aload_n hx hb d_Mo_run_0 rfl (lv_at hl 0 rfl) ?_
  refine lv_iload_n hx hb d_Mo_run_1 rfl (lv_at hl 1 rfl) ?_
  refine lv_if_lt (tgt := 12) hx hb d_Mo_run_2 rfl (fun h => absurd h (hn0)) (fun _ => ?_)
  refine lv_iload_n hx hb d_Mo_run_5 rfl (lv_at hl 1 rfl) ?_
  refine lv_sipush (v := 200) hx hb d_Mo_run_6 (by decide) ?_
  refine lv_icmp_le (tgt := 16) hx hb d_Mo_run_9 rfl (fun _ => ?_) (fun h => absurd (hn1) h)
  refine lv_iconst (v := 0) hx hb d_Mo_run_16 (by decide) ?_
  refine va_put (D := G.1) (ci := 7) (v := .int 0) (ty := .int) (C := R_Mo) (T := T_Mo) (N := 42) hx hb hg in_Mo t_Mo ok_Mo nm_Mo hown hK hP hD hS 0 rfl rfl 0 (by decide) (hg _ mw_890) (fun _ h9 => h9) rfl (by decide +kernel) rfl rfl (Nat.le_of_ble_eq_true rfl) d_Mo_run_17 (fun H locs hP hD hS => ?_)
  have hP : va_P G.1 nn_cls [(h0, .inr (7, [.int 0, .int 0, .ref z1, .int 0, .int 0, .int 0, .int 0, .int 0, .int 0, .int (-1), .int (-1), .int 0, .ref z2, .ref z3, .ref z4, .int 0, .ref z5, .ref z6, .ref z7, .ref z8, .ref z9, .int 0, .int 0, .int 0, .int 0, .int 0, .ref z10, .ref z11, .ref z12, .int 0, .ref z13, .ref z14, .ref z15, .int 0, .int 0, .int 0, .int 0, .int (-1), .int 0, .int 0, .ref z16, .ref z17]))] H := hP
  have hD : va_D A [(h0, .inr (7, [.int 0, .int 0, .ref z1, .int 0, .int 0, .int 0, .int 0, .int 0, .int 0, .int (-1), .int (-1), .int 0, .ref z2, .ref z3, .ref z4, .int 0, .ref z5, .ref z6, .ref z7, .ref z8, .ref z9, .int 0, .int 0, .int 0, .int 0, .int 0, .ref z10, .ref z11, .ref z12, .int 0, .ref z13, .ref z14, .ref z15, .int 0, .int 0, .int 0, .int 0, .int (-1), .int 0, .int 0, .ref z16, .ref z17]))] := hD
  refine lv_iconst (v := 0) hx hb d_Mo_run_20 (by decide) ?_
  refine lv_istore_n (lv' := [(2, .int 0), (0, .ref h0), (1, .int n)]) hx hb d_Mo_run_21 rfl hl (by decide) rfl (fun ls hl => ?_)
  refine lv_aload_n hx hb d_Mo_run_22 rfl (lv_at hl 1 rfl) ?_
  refine va_get (D := G.1) (ci := 7) (v := .int 0) (C := R_Mo) (T := T_Mo) (N := 42) hx hb hg in_Mo hown hK hP 0 rfl rfl 0 (by decide) (hg _ mw_890) (fun _ h9 => h9) rfl d_Mo_run_23 ?_
  refine lv_if_ne (tgt := 52) hx hb d_Mo_run_26 rfl (fun h => absurd (by decide) h) (fun _ => ?_)
  refine lv_iload_n hx hb d_Mo_run_29 rfl (lv_at hl 0 rfl) ?_
  refine lv_iload_n hx hb d_Mo_run_30 rfl (lv_at hl 2 rfl) ?_
  refine lv_icmp_ge (tgt := 52) hx hb d_Mo_run_31 rfl (fun hc31 => ?_) (fun hc31 => ?_)
  · skip
    refine lv_iload_n hx hb d_Mo_run_52 rfl (lv_at hl 0 rfl) ?_
    refine W.widen (k := 0) (n := 0) (Nat.le_of_ble_eq_true rfl) (Nat.le_of_ble_eq_true rfl) ?_
    have hP9 := hP.sub (ws' := [(h0, .inr (7, [.int 0, .int 0, .ref z1, .int 0, .int 0, .int 0, .int 0, .int 0, .int 0, .int (-1), .int (-1), .int 0, .ref z2, .ref z3, .ref z4, .int 0, .ref z5, .ref z6, .ref z7, .ref z8, .ref z9, .int 0, .int 0, .int 0, .int 0, .int 0, .ref z10, .ref z11, .ref z12, .int 0, .ref z13, .ref z14, .ref z15, .int 0, .int 0, .int 0, .int 0, .int (-1), .int 0, .int 0, .ref z16, .ref z17]))]) [0] rfl
    have hD9 := hD.sub (ws' := [(h0, .inr (7, [.int 0, .int 0, .ref z1, .int 0, .int 0, .int 0, .int 0, .int 0, .int 0, .int (-1), .int (-1), .int 0, .ref z2, .ref z3, .ref z4, .int 0, .ref z5, .ref z6, .ref z7, .ref z8, .ref z9, .int 0, .int 0, .int 0, .int 0, .int 0, .ref z10, .ref z11, .ref z12, .int 0, .ref z13, .ref z14, .ref z15, .int 0, .int 0, .int 0, .int 0, .int (-1), .int 0, .int 0, .ref z16, .ref z17]))]) [0] (by decide) rfl
    exact W.iret (v := 0) hx hb hr (fun t ht hW => ⟨⟨0, (), rfl, rfl, ⟨by rw [ht]; exact hP9, hD9⟩⟩, hS.F ht⟩) hS.2.2 d_Mo_run_53
  · skip
    refine lv_aload_n hx hb d_Mo_run_34 rfl (lv_at hl 1 rfl) ?_
    refine va_get (D := G.1) (ci := 7) (v := .int 0) (C := R_Mo) (T := T_Mo) (N := 42) hx hb hg in_Mo hown hK hP 0 rfl rfl 34 (by decide) (hg _ mw_924) (fun _ h9 => h9) rfl d_Mo_run_35 ?_
    refine lv_iconst (v := 1) hx hb d_Mo_run_38 (by decide) ?_
    refine lv_icmp_ne (tgt := 52) hx hb d_Mo_run_39 rfl (fun _ => ?_) (fun h => absurd h (by decide))
    refine lv_iload_n hx hb d_Mo_run_52 rfl (lv_at hl 0 rfl) ?_
    refine W.widen (k := 0) (n := 0) (Nat.le_of_ble_eq_true rfl) (Nat.le_of_ble_eq_true rfl) ?_
    have hP9 := hP.sub (ws' := [(h0, .inr (7, [.int 0, .int 0, .ref z1, .int 0, .int 0, .int 0, .int 0, .int 0, .int 0, .int (-1), .int (-1), .int 0, .ref z2, .ref z3, .ref z4, .int 0, .ref z5, .ref z6, .ref z7, .ref z8, .ref z9, .int 0, .int 0, .int 0, .int 0, .int 0, .ref z10, .ref z11, .ref z12, .int 0, .ref z13, .ref z14, .ref z15, .int 0, .int 0, .int 0, .int 0, .int (-1), .int 0, .int 0, .ref z16, .ref z17]))]) [0] rfl
    have hD9 := hD.sub (ws' := [(h0, .inr (7, [.int 0, .int 0, .ref z1, .int 0, .int 0, .int 0, .int 0, .int 0, .int 0, .int (-1), .int (-1), .int 0, .ref z2, .ref z3, .ref z4, .int 0, .ref z5, .ref z6, .ref z7, .ref z8, .ref z9, .int 0, .int 0, .int 0, .int 0, .int 0, .ref z10, .ref z11, .ref z12, .int 0, .ref z13, .ref z14, .ref z15, .int 0, .int 0, .int 0, .int 0, .int (-1), .int 0, .int 0, .ref z16, .ref z17]))]) [0] (by decide) rfl
    exact W.iret (v := 0) hx hb hr (fun t ht hW => ⟨⟨0, (), rfl, rfl, ⟨by rw [ht]; exact hP9, hD9⟩⟩, hS.F ht⟩) hS.2.2 d_Mo_run_53

theorem d_Mo_run_12 : decode b_Mo_run 12 = .ok (.iconst 1, 1) := by decide +kernel
theorem d_Mo_run_13 : decode b_Mo_run 13 = .ok (.goto 4, 3) := by decide +kernel

set_option maxHeartbeats 4000000 in
set_option maxRecDepth 100000 in
theorem c_Mo_run1 (l : Launch) (G : nn_G) (sz : Nat) (h0 z1 z2 z3 z4 z5 z6 z7 z8 z9 z10 z11 z12 z13 z14 z15 z16 z17 : Nat) (n : Int32) (hn : n < 0 ∨ ¬ n ≤ 200) : Met l y_Mo_run w_Mo_run ({ frames := 0, cells := 0, slots := 0, locals := 0 }) (nn_P G [.ref h0, .int n] [(h0, .inr (7, [.int 0, .int 0, .ref z1, .int 0, .int 0, .int 0, .int 0, .int 0, .int 0, .int (-1), .int (-1), .int 0, .ref z2, .ref z3, .ref z4, .int 0, .ref z5, .ref z6, .ref z7, .ref z8, .ref z9, .int 0, .int 0, .int 0, .int 0, .int 0, .ref z10, .ref z11, .ref z12, .int 0, .ref z13, .ref z14, .ref z15, .int 0, .int 0, .int 0, .int 0, .int (-1), .int 0, .int 0, .ref z16, .ref z17]))] sz) (va_Qi (fun (r : Int32) (u : Unit) => r = 0) (fun u t => va_P G.1 nn_cls [(h0, .inr (7, [.int 1, .int 0, .ref z1, .int 0, .int 0, .int 0, .int 0, .int 0, .int 0, .int (-1), .int (-1), .int 0, .ref z2, .ref z3, .ref z4, .int 0, .ref z5, .ref z6, .ref z7, .ref z8, .ref z9, .int 0, .int 0, .int 0, .int 0, .int 0, .ref z10, .ref z11, .ref z12, .int 0, .ref z13, .ref z14, .ref z15, .int 0, .int 0, .int 0, .int 0, .int (-1), .int 0, .int 0, .ref z16, .ref z17]))] t.heap ∧ va_D (va_A [(h0, .inr (7, [.int 0, .int 0, .ref z1, .int 0, .int 0, .int 0, .int 0, .int 0, .int 0, .int (-1), .int (-1), .int 0, .ref z2, .ref z3, .ref z4, .int 0, .ref z5, .ref z6, .ref z7, .ref z8, .ref z9, .int 0, .int 0, .int 0, .int 0, .int 0, .ref z10, .ref z11, .ref z12, .int 0, .ref z13, .ref z14, .ref z15, .int 0, .int 0, .int 0, .int 0, .int (-1), .int 0, .int 0, .ref z16, .ref z17]))] sz) [(h0, .inr (7, [.int 1, .int 0, .ref z1, .int 0, .int 0, .int 0, .int 0, .int 0, .int 0, .int (-1), .int (-1), .int 0, .ref z2, .ref z3, .ref z4, .int 0, .ref z5, .ref z6, .ref z7, .ref z8, .ref z9, .int 0, .int 0, .int 0, .int 0, .int 0, .ref z10, .ref z11, .ref z12, .int 0, .ref z13, .ref z14, .ref z15, .int 0, .int 0, .int 0, .int 0, .int (-1), .int 0, .int 0, .ref z16, .ref z17]))]) (va_A [(h0, .inr (7, [.int 0, .int 0, .ref z1, .int 0, .int 0, .int 0, .int 0, .int 0, .int 0, .int (-1), .int (-1), .int 0, .ref z2, .ref z3, .ref z4, .int 0, .ref z5, .ref z6, .ref z7, .ref z8, .ref z9, .int 0, .int 0, .int 0, .int 0, .int 0, .ref z10, .ref z11, .ref z12, .int 0, .ref z13, .ref z14, .ref z15, .int 0, .int 0, .int 0, .int 0, .int (-1), .int 0, .int 0, .ref z16, .ref z17]))] sz)) 0 0 (va_A [(h0, .inr (7, [.int 0, .int 0, .ref z1, .int 0, .int 0, .int 0, .int 0, .int 0, .int 0, .int (-1), .int (-1), .int 0, .ref z2, .ref z3, .ref z4, .int 0, .ref z5, .ref z6, .ref z7, .ref z8, .ref z9, .int 0, .int 0, .int 0, .int 0, .int 0, .ref z10, .ref z11, .ref z12, .int 0, .ref z13, .ref z14, .ref z15, .int 0, .int 0, .int 0, .int 0, .int (-1), .int 0, .int 0, .ref z16, .ref z17]))] sz) := by
  refine Met.ofW (cc := b_Mo_run) (maxL := 3) (ret := some .int) (by decide) rfl ?_
  intro p e s m args below meth c s₁ B hml hv
  obtain ⟨rfl, hsz, hP, hK, hD0, hN⟩ := hv
  have hx := B.exec
  have hb := B.bytes
  have hr := B.returns
  have hts := atoms_spec (ws := w_Mo_run) B.pre
  have hg : ∀ w ∈ nn_gw, w.before _ s = true := fun w h => hts w (List.mem_cons_of_mem _ h)
  have hown : s.vm.findClass R_Mo = some m.cls := findClass_of_methodNamed B.named
  have hlocks := B.notSynchronized
  subst hsz
  have hD := hD0.self (sz := s.heap.size)
  generalize hAe : va_A [(h0, .inr (7, [.int 0, .int 0, .ref z1, .int 0, .int 0, .int 0, .int 0, .int 0, .int 0, .int (-1), .int (-1), .int 0, .ref z2, .ref z3, .ref z4, .int 0, .ref z5, .ref z6, .ref z7, .ref z8, .ref z9, .int 0, .int 0, .int 0, .int 0, .int 0, .ref z10, .ref z11, .ref z12, .int 0, .ref z13, .ref z14, .ref z15, .int 0, .int 0, .int 0, .int 0, .int (-1), .int 0, .int 0, .ref z16, .ref z17]))] s.heap.size = A at hD ⊢
  have hA : ∀ q : Nat, s.heap.size ≤ q → A q := fun q h => by rw [← hAe]; exact Or.inr h
  have hS : va_S A s.heap s.heap [] := va_S.rf
  have hP : va_P G.1 nn_cls [(h0, .inr (7, [.int 0, .int 0, .ref z1, .int 0, .int 0, .int 0, .int 0, .int 0, .int 0, .int (-1), .int (-1), .int 0, .ref z2, .ref z3, .ref z4, .int 0, .ref z5, .ref z6, .ref z7, .ref z8, .ref z9, .int 0, .int 0, .int 0, .int 0, .int 0, .ref z10, .ref z11, .ref z12, .int 0, .ref z13, .ref z14, .ref z15, .int 0, .int 0, .int 0, .int 0, .int (-1), .int 0, .int 0, .ref z16, .ref z17]))] s.heap := hP
  have hl := lv_entry ([.ref h0, .int n]) (n := 3) (Nat.le_of_ble_eq_true rfl)
  rw [lg_entry_eq]
  generalize (lg_sl ([.ref h0, .int n]) ++ List.replicate (3 - (lg_sl ([.ref h0, .int n])).length) Slot.unset).toArray = ls at hl ⊢
  have hl : lv_has ls 3 [(0, .ref h0), (1, .int n)] := hl
  refine lv_aload_n hx hb d_Mo_run_0 rfl (lv_at hl 0 rfl) ?_
  refine lv_iload_n hx hb d_Mo_run_1 rfl (lv_at hl 1 rfl) ?_
  refine lv_if_lt (tgt := 12) hx hb d_Mo_run_2 rfl (fun hc2 => ?_) (fun hc2 => ?_)
  · skip
    refine lv_iconst (v := 1) hx hb d_Mo_run_12 (by decide) ?_
    refine lv_goto (tgt := 17) hx hb d_Mo_run_13 rfl ?_
    refine va_put (D := G.1) (ci := 7) (v := .int 1) (ty := .int) (C := R_Mo) (T := T_Mo) (N := 42) hx hb hg in_Mo t_Mo ok_Mo nm_Mo hown hK hP hD hS 0 rfl rfl 0 (by decide) (hg _ mw_890) (fun _ h9 => h9) rfl (by decide +kernel) rfl rfl (Nat.le_of_ble_eq_true rfl) d_Mo_run_17 (fun H locs hP hD hS => ?_)
    have hP : va_P G.1 nn_cls [(h0, .inr (7, [.int 1, .int 0, .ref z1, .int 0, .int 0, .int 0, .int 0, .int 0, .int 0, .int (-1), .int (-1), .int 0, .ref z2, .ref z3, .ref z4, .int 0, .ref z5, .ref z6, .ref z7, .ref z8, .ref z9, .int 0, .int 0, .int 0, .int 0, .int 0, .ref z10, .ref z11, .ref z12, .int 0, .ref z13, .ref z14, .ref z15, .int 0, .int 0, .int 0, .int 0, .int (-1), .int 0, .int 0, .ref z16, .ref z17]))] H := hP
    have hD : va_D A [(h0, .inr (7, [.int 1, .int 0, .ref z1, .int 0, .int 0, .int 0, .int 0, .int 0, .int 0, .int (-1), .int (-1), .int 0, .ref z2, .ref z3, .ref z4, .int 0, .ref z5, .ref z6, .ref z7, .ref z8, .ref z9, .int 0, .int 0, .int 0, .int 0, .int 0, .ref z10, .ref z11, .ref z12, .int 0, .ref z13, .ref z14, .ref z15, .int 0, .int 0, .int 0, .int 0, .int (-1), .int 0, .int 0, .ref z16, .ref z17]))] := hD
    refine lv_iconst (v := 0) hx hb d_Mo_run_20 (by decide) ?_
    refine lv_istore_n (lv' := [(2, .int 0), (0, .ref h0), (1, .int n)]) hx hb d_Mo_run_21 rfl hl (by decide) rfl (fun ls hl => ?_)
    refine lv_aload_n hx hb d_Mo_run_22 rfl (lv_at hl 1 rfl) ?_
    refine va_get (D := G.1) (ci := 7) (v := .int 1) (C := R_Mo) (T := T_Mo) (N := 42) hx hb hg in_Mo hown hK hP 0 rfl rfl 0 (by decide) (hg _ mw_890) (fun _ h9 => h9) rfl d_Mo_run_23 ?_
    refine lv_if_ne (tgt := 52) hx hb d_Mo_run_26 rfl (fun _ => ?_) (fun h => absurd h (by decide))
    refine lv_iload_n hx hb d_Mo_run_52 rfl (lv_at hl 0 rfl) ?_
    refine W.widen (k := 0) (n := 0) (Nat.le_of_ble_eq_true rfl) (Nat.le_of_ble_eq_true rfl) ?_
    have hP9 := hP.sub (ws' := [(h0, .inr (7, [.int 1, .int 0, .ref z1, .int 0, .int 0, .int 0, .int 0, .int 0, .int 0, .int (-1), .int (-1), .int 0, .ref z2, .ref z3, .ref z4, .int 0, .ref z5, .ref z6, .ref z7, .ref z8, .ref z9, .int 0, .int 0, .int 0, .int 0, .int 0, .ref z10, .ref z11, .ref z12, .int 0, .ref z13, .ref z14, .ref z15, .int 0, .int 0, .int 0, .int 0, .int (-1), .int 0, .int 0, .ref z16, .ref z17]))]) [0] rfl
    have hD9 := hD.sub (ws' := [(h0, .inr (7, [.int 1, .int 0, .ref z1, .int 0, .int 0, .int 0, .int 0, .int 0, .int 0, .int (-1), .int (-1), .int 0, .ref z2, .ref z3, .ref z4, .int 0, .ref z5, .ref z6, .ref z7, .ref z8, .ref z9, .int 0, .int 0, .int 0, .int 0, .int 0, .ref z10, .ref z11, .ref z12, .int 0, .ref z13, .ref z14, .ref z15, .int 0, .int 0, .int 0, .int 0, .int (-1), .int 0, .int 0, .ref z16, .ref z17]))]) [0] (by decide) rfl
    exact W.iret (v := 0) hx hb hr (fun t ht hW => ⟨⟨0, (), rfl, rfl, ⟨by rw [ht]; exact hP9, hD9⟩⟩, hS.F ht⟩) hS.2.2 d_Mo_run_53
  · skip
    refine lv_iload_n hx hb d_Mo_run_5 rfl (lv_at hl 1 rfl) ?_
    refine lv_sipush (v := 200) hx hb d_Mo_run_6 (by decide) ?_
    refine lv_icmp_le (tgt := 16) hx hb d_Mo_run_9 rfl (fun h => absurd h (hn.resolve_left hc2)) (fun _ => ?_)
    refine lv_iconst (v := 1) hx hb d_Mo_run_12 (by decide) ?_
    refine lv_goto (tgt := 17) hx hb d_Mo_run_13 rfl ?_
    refine va_put (D := G.1) (ci := 7) (v := .int 1) (ty := .int) (C := R_Mo) (T := T_Mo) (N := 42) hx hb hg in_Mo t_Mo ok_Mo nm_Mo hown hK hP hD hS 0 rfl rfl 0 (by decide) (hg _ mw_890) (fun _ h9 => h9) rfl (by decide +kernel) rfl rfl (Nat.le_of_ble_eq_true rfl) d_Mo_run_17 (fun H locs hP hD hS => ?_)
    have hP : va_P G.1 nn_cls [(h0, .inr (7, [.int 1, .int 0, .ref z1, .int 0, .int 0, .int 0, .int 0, .int 0, .int 0, .int (-1), .int (-1), .int 0, .ref z2, .ref z3, .ref z4, .int 0, .ref z5, .ref z6, .ref z7, .ref z8, .ref z9, .int 0, .int 0, .int 0, .int 0, .int 0, .ref z10, .ref z11, .ref z12, .int 0, .ref z13, .ref z14, .ref z15, .int 0, .int 0, .int 0, .int 0, .int (-1), .int 0, .int 0, .ref z16, .ref z17]))] H := hP
    have hD : va_D A [(h0, .inr (7, [.int 1, .int 0, .ref z1, .int 0, .int 0, .int 0, .int 0, .int 0, .int 0, .int (-1), .int (-1), .int 0, .ref z2, .ref z3, .ref z4, .int 0, .ref z5, .ref z6, .ref z7, .ref z8, .ref z9, .int 0, .int 0, .int 0, .int 0, .int 0, .ref z10, .ref z11, .ref z12, .int 0, .ref z13, .ref z14, .ref z15, .int 0, .int 0, .int 0, .int 0, .int (-1), .int 0, .int 0, .ref z16, .ref z17]))] := hD
    refine lv_iconst (v := 0) hx hb d_Mo_run_20 (by decide) ?_
    refine lv_istore_n (lv' := [(2, .int 0), (0, .ref h0), (1, .int n)]) hx hb d_Mo_run_21 rfl hl (by decide) rfl (fun ls hl => ?_)
    refine lv_aload_n hx hb d_Mo_run_22 rfl (lv_at hl 1 rfl) ?_
    refine va_get (D := G.1) (ci := 7) (v := .int 1) (C := R_Mo) (T := T_Mo) (N := 42) hx hb hg in_Mo hown hK hP 0 rfl rfl 0 (by decide) (hg _ mw_890) (fun _ h9 => h9) rfl d_Mo_run_23 ?_
    refine lv_if_ne (tgt := 52) hx hb d_Mo_run_26 rfl (fun _ => ?_) (fun h => absurd h (by decide))
    refine lv_iload_n hx hb d_Mo_run_52 rfl (lv_at hl 0 rfl) ?_
    refine W.widen (k := 0) (n := 0) (Nat.le_of_ble_eq_true rfl) (Nat.le_of_ble_eq_true rfl) ?_
    have hP9 := hP.sub (ws' := [(h0, .inr (7, [.int 1, .int 0, .ref z1, .int 0, .int 0, .int 0, .int 0, .int 0, .int 0, .int (-1), .int (-1), .int 0, .ref z2, .ref z3, .ref z4, .int 0, .ref z5, .ref z6, .ref z7, .ref z8, .ref z9, .int 0, .int 0, .int 0, .int 0, .int 0, .ref z10, .ref z11, .ref z12, .int 0, .ref z13, .ref z14, .ref z15, .int 0, .int 0, .int 0, .int 0, .int (-1), .int 0, .int 0, .ref z16, .ref z17]))]) [0] rfl
    have hD9 := hD.sub (ws' := [(h0, .inr (7, [.int 1, .int 0, .ref z1, .int 0, .int 0, .int 0, .int 0, .int 0, .int 0, .int (-1), .int (-1), .int 0, .ref z2, .ref z3, .ref z4, .int 0, .ref z5, .ref z6, .ref z7, .ref z8, .ref z9, .int 0, .int 0, .int 0, .int 0, .int 0, .ref z10, .ref z11, .ref z12, .int 0, .ref z13, .ref z14, .ref z15, .int 0, .int 0, .int 0, .int 0, .int (-1), .int 0, .int 0, .ref z16, .ref z17]))]) [0] (by decide) rfl
    exact W.iret (v := 0) hx hb hr (fun t ht hW => ⟨⟨0, (), rfl, rfl, ⟨by rw [ht]; exact hP9, hD9⟩⟩, hS.F ht⟩) hS.2.2 d_Mo_run_53

theorem d_Mo_thrown_0 : decode b_Mo_thrown 0 = .ok (.aload_n 0, 1) := by decide +kernel
theorem d_Mo_thrown_1 : decode b_Mo_thrown 1 = .ok (.getfield 72, 3) := by decide +kernel
theorem d_Mo_thrown_4 : decode b_Mo_thrown 4 = .ok (.ireturn, 1) := by decide +kernel

set_option maxHeartbeats 4000000 in
set_option maxRecDepth 100000 in
theorem c_Mo_thrown (l : Launch) (G : nn_G) (sz : Nat) (h0 : Nat) (tv : Int32) (fs : List Value) : Met l y_Mo_thrown w_Mo_thrown ({ frames := 0, cells := 0, slots := 0, locals := 0 }) (nn_P G [.ref h0] [(h0, .inr (7, (.int tv :: fs)))] sz) (vp_Si (fun r => r = tv)) 0 0 (fun _ => False) := by
  refine Met.ofW (cc := b_Mo_thrown) (maxL := 1) (ret := some .int) (by decide) rfl ?_
  intro p e s m args below meth c s₁ B hml hv
  obtain ⟨rfl, hsz, hP, hK, hD0, hN⟩ := hv
  have hx := B.exec
  have hb := B.bytes
  have hr := B.returns
  have hts := atoms_spec (ws := w_Mo_thrown) B.pre
  have hg : ∀ w ∈ nn_gw, w.before _ s = true := fun w h => hts w (List.mem_cons_of_mem _ h)
  have hown : s.vm.findClass R_Mo = some m.cls := findClass_of_methodNamed B.named
  have hlocks := B.notSynchronized
  subst hsz
  have hD := hD0
  generalize hAe : (fun _ : Nat => True) = A at hD
  have hA : ∀ q : Nat, s.heap.size ≤ q → A q := fun q h => by rw [← hAe]; trivial
  have hS : va_S A s.heap s.heap [] := va_S.rf
  have hP : va_P G.1 nn_cls [(h0, .inr (7, (.int tv :: fs)))] s.heap := hP
  have hl := lv_entry ([.ref h0]) (n := 1) (Nat.le_of_ble_eq_true rfl)
  rw [lg_entry_eq]
  generalize (lg_sl ([.ref h0]) ++ List.replicate (1 - (lg_sl ([.ref h0])).length) Slot.unset).toArray = ls at hl ⊢
  have hl : lv_has ls 1 [(0, .ref h0)] := hl
  refine lv_aload_n hx hb d_Mo_thrown_0 rfl (lv_at hl 0 rfl) ?_
  refine va_get (D := G.1) (ci := 7) (v := .int tv) (C := R_Mo) (T := T_Mo) (N := 42) hx hb hg in_Mo hown hK hP 0 rfl rfl 0 (by decide) (hg _ mw_890) (fun _ h9 => h9) rfl d_Mo_thrown_1 ?_
  exact W.iret (v := tv) hx hb hr (fun t ht hW => ⟨tv, rfl, rfl, ht⟩) (fun q h => by cases h) d_Mo_thrown_4
