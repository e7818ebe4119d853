/-! contracts (by wip/p1/gen.py) -/
theorem mw_115 : (.instanceMethod ⟨"java/lang/Object", "<init>", "()V"⟩ : Cond) ∈ nn_gw := nn_at 115 (by decide +kernel) (by decide +kernel)
theorem mw_148 : (.arrayClass .int : Cond) ∈ nn_gw := nn_at 148 (by decide +kernel) (by decide +kernel)
theorem mw_205 : (.methodLink R_Co 3 ⟨"java/lang/Object", "<init>", "()V"⟩ : Cond) ∈ nn_gw := nn_at 205 (by decide +kernel) (by decide +kernel)
theorem mw_206 : (.fieldLink R_Co 11 R_Co "operations" "[I" : Cond) ∈ nn_gw := nn_at 206 (by decide +kernel) (by decide +kernel)
theorem mw_207 : (.fieldLink R_Co 15 R_Co "links" "[I" : Cond) ∈ nn_gw := nn_at 207 (by decide +kernel) (by decide +kernel)
theorem mw_208 : (.fieldLink R_Co 18 R_Co "operands" "[I" : Cond) ∈ nn_gw := nn_at 208 (by decide +kernel) (by decide +kernel)
theorem mw_209 : (.fieldLink R_Co 21 R_Co "size" "I" : Cond) ∈ nn_gw := nn_at 209 (by decide +kernel) (by decide +kernel)
theorem d_Co_init_0 : decode b_Co_init 0 = .ok (.aload_n 0, 1) := by decide +kernel
theorem d_Co_init_1 : decode b_Co_init 1 = .ok (.invokespecial 3, 3) := by decide +kernel
theorem d_Co_init_4 : decode b_Co_init 4 = .ok (.aload_n 0, 1) := by decide +kernel
theorem d_Co_init_5 : decode b_Co_init 5 = .ok (.sipush 180, 3) := by decide +kernel
theorem d_Co_init_8 : decode b_Co_init 8 = .ok (.newarray .int, 2) := by decide +kernel
theorem d_Co_init_10 : decode b_Co_init 10 = .ok (.putfield 11, 3) := by decide +kernel
theorem d_Co_init_13 : decode b_Co_init 13 = .ok (.aload_n 0, 1) := by decide +kernel
theorem d_Co_init_14 : decode b_Co_init 14 = .ok (.sipush 180, 3) := by decide +kernel
theorem d_Co_init_17 : decode b_Co_init 17 = .ok (.newarray .int, 2) := by decide +kernel
theorem d_Co_init_19 : decode b_Co_init 19 = .ok (.putfield 15, 3) := by decide +kernel
theorem d_Co_init_22 : decode b_Co_init 22 = .ok (.aload_n 0, 1) := by decide +kernel
theorem d_Co_init_23 : decode b_Co_init 23 = .ok (.sipush 180, 3) := by decide +kernel
theorem d_Co_init_26 : decode b_Co_init 26 = .ok (.newarray .int, 2) := by decide +kernel
theorem d_Co_init_28 : decode b_Co_init 28 = .ok (.putfield 18, 3) := by decide +kernel
theorem d_Co_init_31 : decode b_Co_init 31 = .ok (.aload_n 0, 1) := by decide +kernel
theorem d_Co_init_32 : decode b_Co_init 32 = .ok (.iconst 0, 1) := by decide +kernel
theorem d_Co_init_33 : decode b_Co_init 33 = .ok (.putfield 21, 3) := by decide +kernel
theorem d_Co_init_36 : decode b_Co_init 36 = .ok (.return_, 1) := by decide +kernel

set_option maxHeartbeats 4000000 in
set_option maxRecDepth 100000 in
theorem c_Co_init (l : Launch) (G : nn_G) (sz : Nat) (h0 : Nat) : Met l y_Co_init w_Co_init ({ frames := 1, cells := 3, slots := 540, locals := 12 }) (nn_P G [.ref h0] [(h0, .inr (1, [.null, .null, .null, .int 0]))] sz) (va_Qv (fun u : Nat × Nat × Nat => True) (fun u t => va_P G.1 nn_cls [(h0, .inr (1, [.ref u.1, .ref u.2.1, .ref u.2.2, .int 0])), (u.1, .inl (G.2 0, 180, .inl (fun _ => 0))), (u.2.1, .inl (G.2 0, 180, .inl (fun _ => 0))), (u.2.2, .inl (G.2 0, 180, .inl (fun _ => 0)))] t.heap ∧ va_D (va_A [(h0, .inr (1, [.null, .null, .null, .int 0]))] sz) [(h0, .inr (1, [.ref u.1, .ref u.2.1, .ref u.2.2, .int 0])), (u.1, .inl (G.2 0, 180, .inl (fun _ => 0))), (u.2.1, .inl (G.2 0, 180, .inl (fun _ => 0))), (u.2.2, .inl (G.2 0, 180, .inl (fun _ => 0)))]) (va_A [(h0, .inr (1, [.null, .null, .null, .int 0]))] sz)) 3 540 (va_A [(h0, .inr (1, [.null, .null, .null, .int 0]))] sz) := by
  refine Met.ofW (cc := b_Co_init) (maxL := 1) (ret := none) (by decide) rfl ?_
  intro p e s m args below meth c s₁ B hml hv
  obtain ⟨rfl, hsz, hP, hK, hD0, hN⟩ := hv
  have hx := B.exec
  have hb := B.bytes
  have hr := B.returns
  have hts := atoms_spec (ws := w_Co_init) B.pre
  have hg : ∀ w ∈ nn_gw, w.before _ s = true := fun w h => hts w (List.mem_cons_of_mem _ h)
  have hown : s.vm.findClass R_Co = some m.cls := findClass_of_methodNamed B.named
  have hlocks := B.notSynchronized
  have hin : meth.name = "<init>" := (name_of_methodNamed B.named B.method).1
  subst hsz
  have hD := hD0.self (sz := s.heap.size)
  generalize hAe : va_A [(h0, .inr (1, [.null, .null, .null, .int 0]))] s.heap.size = A at hD ⊢
  have hA : ∀ q : Nat, s.heap.size ≤ q → A q := fun q h => by rw [← hAe]; exact Or.inr h
  have hS : va_S A s.heap s.heap [] := va_S.rf
  have hP : va_P G.1 nn_cls [(h0, .inr (1, [.null, .null, .null, .int 0]))] s.heap := hP
  have hl := lv_entry ([.ref h0]) (n := 1) (Nat.le_of_ble_eq_true rfl)
  rw [lg_entry_eq]
  generalize (lg_sl ([.ref h0]) ++ List.replicate (1 - (lg_sl ([.ref h0])).length) Slot.unset).toArray = ls at hl ⊢
  have hl : lv_has ls 1 [(0, .ref h0)] := hl
  refine lv_aload_n hx hb d_Co_init_0 rfl (lv_at hl 0 rfl) ?_
  refine W.objInit hx hb hown (hg _ mw_205) (hg _ mw_115) (hg _ nn_oc) rfl (by rw [hml]; exact hl.1) rfl d_Co_init_1 (Nat.le_of_ble_eq_true rfl) (Nat.le_of_ble_eq_true rfl) ?_
  refine W.eq (g2 := F0 m 4 ls []) rfl ?_
  refine lv_aload_n hx hb d_Co_init_4 rfl (lv_at hl 0 rfl) ?_
  refine lv_sipush (v := 180) hx hb d_Co_init_5 (by decide) ?_
  refine nb_newa (atype := .int) (a0 := (180, .inl (fun _ => 0))) (N' := 180) (ty := .int) (cA := G.2 0) hx hb (hg _ mw_148) rfl hK hP hD hS hA 0 rfl (fun _ => rfl) (by decide) (by decide) (by decide) (Nat.le_of_ble_eq_true rfl) (Nat.le_of_ble_eq_true rfl) d_Co_init_8 (fun q1 H hP hD hS => ?_)
  have hP : va_P G.1 nn_cls [(h0, .inr (1, [.null, .null, .null, .int 0])), (q1, .inl (G.2 0, 180, .inl (fun _ => 0)))] H := hP
  have hD : va_D A [(h0, .inr (1, [.null, .null, .null, .int 0])), (q1, .inl (G.2 0, 180, .inl (fun _ => 0)))] := hD
  refine W.widen (k := 1) (n := 180) (Nat.le_of_ble_eq_true rfl) (Nat.le_of_ble_eq_true rfl) ?_
  refine va_putF (D := G.1) (ci := 1) (v := .ref q1) (ty := .array .int) (C := R_Co) (T := T_Co) (N := 4) hx hb hg in_Co t_Co ok_Co nm_Co hown hK hP hD hS 0 rfl rfl 0 (by decide) (hg _ mw_206) (fun _ h9 => h9) rfl hin rfl (by decide +kernel) rfl rfl (Nat.le_of_ble_eq_true rfl) d_Co_init_10 (fun H locs hP hD hS => ?_)
  have hP : va_P G.1 nn_cls [(h0, .inr (1, [.ref q1, .null, .null, .int 0])), (q1, .inl (G.2 0, 180, .inl (fun _ => 0)))] H := hP
  have hD : va_D A [(h0, .inr (1, [.ref q1, .null, .null, .int 0])), (q1, .inl (G.2 0, 180, .inl (fun _ => 0)))] := hD
  refine lv_aload_n hx hb d_Co_init_13 rfl (lv_at hl 0 rfl) ?_
  refine lv_sipush (v := 180) hx hb d_Co_init_14 (by decide) ?_
  refine nb_newa (atype := .int) (a0 := (180, .inl (fun _ => 0))) (N' := 180) (ty := .int) (cA := G.2 0) hx hb (hg _ mw_148) rfl hK hP hD hS hA 0 rfl (fun _ => rfl) (by decide) (by decide) (by decide) (Nat.le_of_ble_eq_true rfl) (Nat.le_of_ble_eq_true rfl) d_Co_init_17 (fun q2 H hP hD hS => ?_)
  have hP : va_P G.1 nn_cls [(h0, .inr (1, [.ref q1, .null, .null, .int 0])), (q1, .inl (G.2 0, 180, .inl (fun _ => 0))), (q2, .inl (G.2 0, 180, .inl (fun _ => 0)))] H := hP
  have hD : va_D A [(h0, .inr (1, [.ref q1, .null, .null, .int 0])), (q1, .inl (G.2 0, 180, .inl (fun _ => 0))), (q2, .inl (G.2 0, 180, .inl (fun _ => 0)))] := hD
  refine W.widen (k := 2) (n := 360) (Nat.le_of_ble_eq_true rfl) (Nat.le_of_ble_eq_true rfl) ?_
  refine va_putF (D := G.1) (ci := 1) (v := .ref q2) (ty := .array .int) (C := R_Co) (T := T_Co) (N := 4) hx hb hg in_Co t_Co ok_Co nm_Co hown hK hP hD hS 0 rfl rfl 1 (by decide) (hg _ mw_207) (fun _ h9 => h9) rfl hin rfl (by decide +kernel) rfl rfl (Nat.le_of_ble_eq_true rfl) d_Co_init_19 (fun H locs hP hD hS => ?_)
  have hP : va_P G.1 nn_cls [(h0, .inr (1, [.ref q1, .ref q2, .null, .int 0])), (q1, .inl (G.2 0, 180, .inl (fun _ => 0))), (q2, .inl (G.2 0, 180, .inl (fun _ => 0)))] H := hP
  have hD : va_D A [(h0, .inr (1, [.ref q1, .ref q2, .null, .int 0])), (q1, .inl (G.2 0, 180, .inl (fun _ => 0))), (q2, .inl (G.2 0, 180, .inl (fun _ => 0)))] := hD
  refine lv_aload_n hx hb d_Co_init_22 rfl (lv_at hl 0 rfl) ?_
  refine lv_sipush (v := 180) hx hb d_Co_init_23 (by decide) ?_
  refine nb_newa (atype := .int) (a0 := (180, .inl (fun _ => 0))) (N' := 180) (ty := .int) (cA := G.2 0) hx hb (hg _ mw_148) rfl hK hP hD hS hA 0 rfl (fun _ => rfl) (by decide) (by decide) (by decide) (Nat.le_of_ble_eq_true rfl) (Nat.le_of_ble_eq_true rfl) d_Co_init_26 (fun q3 H hP hD hS => ?_)
  have hP : va_P G.1 nn_cls [(h0, .inr (1, [.ref q1, .ref q2, .null, .int 0])), (q1, .inl (G.2 0, 180, .inl (fun _ => 0))), (q2, .inl (G.2 0, 180, .inl (fun _ => 0))), (q3, .inl (G.2 0, 180, .inl (fun _ => 0)))] H := hP
  have hD : va_D A [(h0, .inr (1, [.ref q1, .ref q2, .null, .int 0])), (q1, .inl (G.2 0, 180, .inl (fun _ => 0))), (q2, .inl (G.2 0, 180, .inl (fun _ => 0))), (q3, .inl (G.2 0, 180, .inl (fun _ => 0)))] := hD
  refine W.widen (k := 3) (n := 540) (Nat.le_of_ble_eq_true rfl) (Nat.le_of_ble_eq_true rfl) ?_
  refine va_putF (D := G.1) (ci := 1) (v := .ref q3) (ty := .array .int) (C := R_Co) (T := T_Co) (N := 4) hx hb hg in_Co t_Co ok_Co nm_Co hown hK hP hD hS 0 rfl rfl 2 (by decide) (hg _ mw_208) (fun _ h9 => h9) rfl hin rfl (by decide +kernel) rfl rfl (Nat.le_of_ble_eq_true rfl) d_Co_init_28 (fun H locs hP hD hS => ?_)
  have hP : va_P G.1 nn_cls [(h0, .inr (1, [.ref q1, .ref q2, .ref q3, .int 0])), (q1, .inl (G.2 0, 180, .inl (fun _ => 0))), (q2, .inl (G.2 0, 180, .inl (fun _ => 0))), (q3, .inl (G.2 0, 180, .inl (fun _ => 0)))] H := hP
  have hD : va_D A [(h0, .inr (1, [.ref q1, .ref q2, .ref q3, .int 0])), (q1, .inl (G.2 0, 180, .inl (fun _ => 0))), (q2, .inl (G.2 0, 180, .inl (fun _ => 0))), (q3, .inl (G.2 0, 180, .inl (fun _ => 0)))] := hD
  refine lv_aload_n hx hb d_Co_init_31 rfl (lv_at hl 0 rfl) ?_
  refine lv_iconst (v := 0) hx hb d_Co_init_32 (by decide) ?_
  refine va_put (D := G.1) (ci := 1) (v := .int 0) (ty := .int) (C := R_Co) (T := T_Co) (N := 4) hx hb hg in_Co t_Co ok_Co nm_Co hown hK hP hD hS 0 rfl rfl 3 (by decide) (hg _ mw_209) (fun _ h9 => h9) rfl (by decide +kernel) rfl rfl (Nat.le_of_ble_eq_true rfl) d_Co_init_33 (fun H locs hP hD hS => ?_)
  have hP : va_P G.1 nn_cls [(h0, .inr (1, [.ref q1, .ref q2, .ref q3, .int 0])), (q1, .inl (G.2 0, 180, .inl (fun _ => 0))), (q2, .inl (G.2 0, 180, .inl (fun _ => 0))), (q3, .inl (G.2 0, 180, .inl (fun _ => 0)))] H := hP
  have hD : va_D A [(h0, .inr (1, [.ref q1, .ref q2, .ref q3, .int 0])), (q1, .inl (G.2 0, 180, .inl (fun _ => 0))), (q2, .inl (G.2 0, 180, .inl (fun _ => 0))), (q3, .inl (G.2 0, 180, .inl (fun _ => 0)))] := hD
  refine W.widen (k := 3) (n := 540) (Nat.le_of_ble_eq_true rfl) (Nat.le_of_ble_eq_true rfl) ?_
  have hP9 := hP.sub (ws' := [(h0, .inr (1, [.ref q1, .ref q2, .ref q3, .int 0])), (q1, .inl (G.2 0, 180, .inl (fun _ => 0))), (q2, .inl (G.2 0, 180, .inl (fun _ => 0))), (q3, .inl (G.2 0, 180, .inl (fun _ => 0)))]) [0, 1, 2, 3] rfl
  have hD9 := hD.sub (ws' := [(h0, .inr (1, [.ref q1, .ref q2, .ref q3, .int 0])), (q1, .inl (G.2 0, 180, .inl (fun _ => 0))), (q2, .inl (G.2 0, 180, .inl (fun _ => 0))), (q3, .inl (G.2 0, 180, .inl (fun _ => 0)))]) [0, 1, 2, 3] (by decide) rfl
  exact W.vret hx hb hr (fun t ht hW => ⟨⟨(q1, q2, q3), rfl, trivial, ⟨by rw [ht]; exact hP9, hD9⟩⟩, hS.F ht⟩) hS.2.2 d_Co_init_36

theorem d_Co_size_0 : decode b_Co_size 0 = .ok (.aload_n 0, 1) := by decide +kernel
theorem d_Co_size_1 : decode b_Co_size 1 = .ok (.getfield 21, 3) := by decide +kernel
theorem d_Co_size_4 : decode b_Co_size 4 = .ok (.ireturn, 1) := by decide +kernel

set_option maxHeartbeats 4000000 in
set_option maxRecDepth 100000 in
theorem c_Co_size (l : Launch) (G : nn_G) (sz : Nat) (h0 x1 x2 x3 : Nat) : Met l y_Co_size w_Co_size ({ frames := 0, cells := 0, slots := 0, locals := 0 }) (nn_P G [.ref h0] [(h0, .inr (1, [.ref x1, .ref x2, .ref x3, .int 0]))] sz) (vp_Si (fun r => r = 0)) 0 0 (fun _ => False) := by
  refine Met.ofW (cc := b_Co_size) (maxL := 1) (ret := some .int) (by decide) rfl ?_
  intro p e s m args below meth c s₁ B hml hv
  obtain ⟨rfl, hsz, hP, hK, hD0, hN⟩ := hv
  have hx := B.exec
  have hb := B.bytes
  have hr := B.returns
  have hts := atoms_spec (ws := w_Co_size) B.pre
  have hg : ∀ w ∈ nn_gw, w.before _ s = true := fun w h => hts w (List.mem_cons_of_mem _ h)
  have hown : s.vm.findClass R_Co = some m.cls := findClass_of_methodNamed B.named
  have hlocks := B.notSynchronized
  subst hsz
  have hD := hD0
  generalize hAe : (fun _ : Nat => True) = A at hD
  have hA : ∀ q : Nat, s.heap.size ≤ q → A q := fun q h => by rw [← hAe]; trivial
  have hS : va_S A s.heap s.heap [] := va_S.rf
  have hP : va_P G.1 nn_cls [(h0, .inr (1, [.ref x1, .ref x2, .ref x3, .int 0]))] s.heap := hP
  have hl := lv_entry ([.ref h0]) (n := 1) (Nat.le_of_ble_eq_true rfl)
  rw [lg_entry_eq]
  generalize (lg_sl ([.ref h0]) ++ List.replicate (1 - (lg_sl ([.ref h0])).length) Slot.unset).toArray = ls at hl ⊢
  have hl : lv_has ls 1 [(0, .ref h0)] := hl
  refine lv_aload_n hx hb d_Co_size_0 rfl (lv_at hl 0 rfl) ?_
  refine va_get (D := G.1) (ci := 1) (v := .int 0) (C := R_Co) (T := T_Co) (N := 4) hx hb hg in_Co hown hK hP 0 rfl rfl 3 (by decide) (hg _ mw_209) (fun _ h9 => h9) rfl d_Co_size_1 ?_
  exact W.iret (v := 0) hx hb hr (fun t ht hW => ⟨0, rfl, rfl, ht⟩) (fun q h => by cases h) d_Co_size_4

theorem d_Co_isOne_0 : decode b_Co_isOne 0 = .ok (.iload_n 1, 1) := by decide +kernel
theorem d_Co_isOne_1 : decode b_Co_isOne 1 = .ok (.ifCond .lt 15, 3) := by decide +kernel
theorem d_Co_isOne_4 : decode b_Co_isOne 4 = .ok (.iload_n 1, 1) := by decide +kernel
theorem d_Co_isOne_5 : decode b_Co_isOne 5 = .ok (.aload_n 0, 1) := by decide +kernel
theorem d_Co_isOne_6 : decode b_Co_isOne 6 = .ok (.getfield 21, 3) := by decide +kernel
theorem d_Co_isOne_9 : decode b_Co_isOne 9 = .ok (.if_icmp .ge 7, 3) := by decide +kernel
theorem d_Co_isOne_16 : decode b_Co_isOne 16 = .ok (.iconst 0, 1) := by decide +kernel
theorem d_Co_isOne_17 : decode b_Co_isOne 17 = .ok (.ireturn, 1) := by decide +kernel

set_option maxHeartbeats 4000000 in
set_option maxRecDepth 100000 in
theorem c_Co_isOne (l : Launch) (G : nn_G) (sz : Nat) (h0 x1 x2 x3 : Nat) (k : Int32) : Met l y_Co_isOne w_Co_isOne ({ frames := 0, cells := 0, slots := 0, locals := 0 }) (nn_P G [.ref h0, .int k] [(h0, .inr (1, [.ref x1, .ref x2, .ref x3, .int 0]))] sz) (vp_Si (fun r => r = 0)) 0 0 (fun _ => False) := by
  refine Met.ofW (cc := b_Co_isOne) (maxL := 2) (ret := some .boolean) (by decide) rfl ?_
  intro p e s m args below meth c s₁ B hml hv
  obtain ⟨rfl, hsz, hP, hK, hD0, hN⟩ := hv
  have hx := B.exec
  have hb := B.bytes
  have hr := B.returns
  have hts := atoms_spec (ws := w_Co_isOne) B.pre
  have hg : ∀ w ∈ nn_gw, w.before _ s = true := fun w h => hts w (List.mem_cons_of_mem _ h)
  have hown : s.vm.findClass R_Co = some m.cls := findClass_of_methodNamed B.named
  have hlocks := B.notSynchronized
  subst hsz
  have hD := hD0
  generalize hAe : (fun _ : Nat => True) = A at hD
  have hA : ∀ q : Nat, s.heap.size ≤ q → A q := fun q h => by rw [← hAe]; trivial
  have hS : va_S A s.heap s.heap [] := va_S.rf
  have hP : va_P G.1 nn_cls [(h0, .inr (1, [.ref x1, .ref x2, .ref x3, .int 0]))] s.heap := hP
  have hl := lv_entry ([.ref h0, .int k]) (n := 2) (Nat.le_of_ble_eq_true rfl)
  rw [lg_entry_eq]
  generalize (lg_sl ([.ref h0, .int k]) ++ List.replicate (2 - (lg_sl ([.ref h0, .int k])).length) Slot.unset).toArray = ls at hl ⊢
  have hl : lv_has ls 2 [(0, .ref h0), (1, .int k)] := hl
  refine lv_iload_n hx hb d_Co_isOne_0 rfl (lv_at hl 1 rfl) ?_
  refine lv_if_lt (tgt := 16) hx hb d_Co_isOne_1 rfl (fun hc1 => ?_) (fun hc1 => ?_)
  · skip
    refine lv_iconst (v := 0) hx hb d_Co_isOne_16 (by decide) ?_
    exact W.zret (v := 0) hx hb hr rfl (fun t ht hW => ⟨0, rfl, rfl, ht⟩) (fun q h => by cases h) d_Co_isOne_17
  · skip
    refine lv_iload_n hx hb d_Co_isOne_4 rfl (lv_at hl 1 rfl) ?_
    refine lv_aload_n hx hb d_Co_isOne_5 rfl (lv_at hl 0 rfl) ?_
    refine va_get (D := G.1) (ci := 1) (v := .int 0) (C := R_Co) (T := T_Co) (N := 4) hx hb hg in_Co hown hK hP 0 rfl rfl 3 (by decide) (hg _ mw_209) (fun _ h9 => h9) rfl d_Co_isOne_6 ?_
    refine lv_icmp_ge (tgt := 16) hx hb d_Co_isOne_9 rfl (fun _ => ?_) (fun h => absurd (Int32.not_lt.mp hc1) h)
    refine lv_iconst (v := 0) hx hb d_Co_isOne_16 (by decide) ?_
    exact W.zret (v := 0) hx hb hr rfl (fun t ht hW => ⟨0, rfl, rfl, ht⟩) (fun q h => by cases h) d_Co_isOne_17

theorem mw_1 : (.selects R_Co y_Co_isOne y_Co_isOne : Cond) ∈ nn_gw := nn_at 1 (by decide +kernel) (by decide +kernel)
theorem mw_92 : (.initialized R_Co : Cond) ∈ nn_gw := nn_at 92 (by decide +kernel) (by decide +kernel)
theorem mw_322 : (.methodLink R_Co 25 y_Co_isOne : Cond) ∈ nn_gw := nn_at 322 (by decide +kernel) (by decide +kernel)
theorem mw_324 : (.instanceMethod y_Co_isOne : Cond) ∈ nn_gw := nn_at 324 (by decide +kernel) (by decide +kernel)
theorem mw_325 : (.code y_Co_isOne b_Co_isOne 2 (some .boolean) : Cond) ∈ nn_gw := nn_at 325 (by decide +kernel) (by decide +kernel)
theorem d_Co_operation_0 : decode b_Co_operation 0 = .ok (.aload_n 0, 1) := by decide +kernel
theorem d_Co_operation_1 : decode b_Co_operation 1 = .ok (.iload_n 1, 1) := by decide +kernel
theorem d_Co_operation_2 : decode b_Co_operation 2 = .ok (.invokevirtual 25, 3) := by decide +kernel
theorem d_Co_operation_5 : decode b_Co_operation 5 = .ok (.ifCond .eq 12, 3) := by decide +kernel
theorem d_Co_operation_17 : decode b_Co_operation 17 = .ok (.iconst 0, 1) := by decide +kernel
theorem d_Co_operation_18 : decode b_Co_operation 18 = .ok (.ireturn, 1) := by decide +kernel

set_option maxHeartbeats 4000000 in
set_option maxRecDepth 100000 in
theorem c_Co_operation (l : Launch) (G : nn_G) (sz : Nat) (h0 x1 x2 x3 : Nat) (k : Int32) : Met l y_Co_operation w_Co_operation ({ frames := 1, cells := 0, slots := 0, locals := 21 }) (nn_P G [.ref h0, .int k] [(h0, .inr (1, [.ref x1, .ref x2, .ref x3, .int 0]))] sz) (vp_Si (fun r => r = 0)) 0 0 (fun _ => False) := by
  refine Met.ofW (cc := b_Co_operation) (maxL := 2) (ret := some .int) (by decide) rfl ?_
  intro p e s m args below meth c s₁ B hml hv
  obtain ⟨rfl, hsz, hP, hK, hD0, hN⟩ := hv
  have hx := B.exec
  have hb := B.bytes
  have hr := B.returns
  have hts := atoms_spec (ws := w_Co_operation) B.pre
  have hg : ∀ w ∈ nn_gw, w.before _ s = true := fun w h => hts w (List.mem_cons_of_mem _ h)
  have hown : s.vm.findClass R_Co = some m.cls := findClass_of_methodNamed B.named
  have hlocks := B.notSynchronized
  subst hsz
  have hD := hD0
  generalize hAe : (fun _ : Nat => True) = A at hD
  have hA : ∀ q : Nat, s.heap.size ≤ q → A q := fun q h => by rw [← hAe]; trivial
  have hS : va_S A s.heap s.heap [] := va_S.rf
  have hP : va_P G.1 nn_cls [(h0, .inr (1, [.ref x1, .ref x2, .ref x3, .int 0]))] s.heap := hP
  have hl := lv_entry ([.ref h0, .int k]) (n := 2) (Nat.le_of_ble_eq_true rfl)
  rw [lg_entry_eq]
  generalize (lg_sl ([.ref h0, .int k]) ++ List.replicate (2 - (lg_sl ([.ref h0, .int k])).length) Slot.unset).toArray = ls at hl ⊢
  have hl : lv_has ls 2 [(0, .ref h0), (1, .int k)] := hl
  refine lv_aload_n hx hb d_Co_operation_0 rfl (lv_at hl 0 rfl) ?_
  refine lv_iload_n hx hb d_Co_operation_1 rfl (lv_at hl 1 rfl) ?_
  have hPc := hP.sub (ws' := [(h0, .inr (1, [.ref x1, .ref x2, .ref x3, .int 0]))]) [0] rfl
  have hDc := hD.sub (ws' := [(h0, .inr (1, [.ref x1, .ref x2, .ref x3, .int 0]))]) [0] (by decide) rfl
  refine vp_callSi (va_Run.run (va_runV (As := [.int k]) (rest := []) ⟨hx, hb, hml, hown, hts⟩ (c_Co_isOne l G _ h0 x1 x2 x3 k) (cwV 1 hts (nn_gV mw_325 mw_322 mw_324 mw_1 mw_92) rfl rfl rfl (by decide +kernel) ⟨Nat.le_of_ble_eq_true rfl, Nat.le_of_ble_eq_true rfl⟩) (nn_preV (va_recv hK hP rfl (q0 := 0) rfl) hPc hDc hK hN) rfl rfl hl.1 rfl (lv_room (Nat.le_of_ble_eq_true rfl)) d_Co_operation_2 ⟨(Nat.le_of_ble_eq_true rfl), (Nat.le_of_ble_eq_true rfl)⟩)) (fun r1 er1 => ?_)
  subst er1
  refine lv_if_eq (tgt := 17) hx hb d_Co_operation_5 rfl (fun _ => ?_) (fun h => absurd (by decide) h)
  refine lv_iconst (v := 0) hx hb d_Co_operation_17 (by decide) ?_
  exact W.iret (v := 0) hx hb hr (fun t ht hW => ⟨0, rfl, rfl, ht⟩) (fun q h => by cases h) d_Co_operation_18

theorem d_Co_links_0 : decode b_Co_links 0 = .ok (.aload_n 0, 1) := by decide +kernel
theorem d_Co_links_1 : decode b_Co_links 1 = .ok (.iload_n 1, 1) := by decide +kernel
theorem d_Co_links_2 : decode b_Co_links 2 = .ok (.invokevirtual 25, 3) := by decide +kernel
theorem d_Co_links_5 : decode b_Co_links 5 = .ok (.ifCond .eq 12, 3) := by decide +kernel
theorem d_Co_links_17 : decode b_Co_links 17 = .ok (.iconst 0, 1) := by decide +kernel
theorem d_Co_links_18 : decode b_Co_links 18 = .ok (.ireturn, 1) := by decide +kernel

set_option maxHeartbeats 4000000 in
set_option maxRecDepth 100000 in
theorem c_Co_links (l : Launch) (G : nn_G) (sz : Nat) (h0 x1 x2 x3 : Nat) (k : Int32) : Met l y_Co_links w_Co_links ({ frames := 1, cells := 0, slots := 0, locals := 21 }) (nn_P G [.ref h0, .int k] [(h0, .inr (1, [.ref x1, .ref x2, .ref x3, .int 0]))] sz) (vp_Si (fun r => r = 0)) 0 0 (fun _ => False) := by
  refine Met.ofW (cc := b_Co_links) (maxL := 2) (ret := some .int) (by decide) rfl ?_
  intro p e s m args below meth c s₁ B hml hv
  obtain ⟨rfl, hsz, hP, hK, hD0, hN⟩ := hv
  have hx := B.exec
  have hb := B.bytes
  have hr := B.returns
  have hts := atoms_spec (ws := w_Co_links) B.pre
  have hg : ∀ w ∈ nn_gw, w.before _ s = true := fun w h => hts w (List.mem_cons_of_mem _ h)
  have hown : s.vm.findClass R_Co = some m.cls := findClass_of_methodNamed B.named
  have hlocks := B.notSynchronized
  subst hsz
  have hD := hD0
  generalize hAe : (fun _ : Nat => True) = A at hD
  have hA : ∀ q : Nat, s.heap.size ≤ q → A q := fun q h => by rw [← hAe]; trivial
  have hS : va_S A s.heap s.heap [] := va_S.rf
  have hP : va_P G.1 nn_cls [(h0, .inr (1, [.ref x1, .ref x2, .ref x3, .int 0]))] s.heap := hP
  have hl := lv_entry ([.ref h0, .int k]) (n := 2) (Nat.le_of_ble_eq_true rfl)
  rw [lg_entry_eq]
  generalize (lg_sl ([.ref h0, .int k]) ++ List.replicate (2 - (lg_sl ([.ref h0, .int k])).length) Slot.unset).toArray = ls at hl ⊢
  have hl : lv_has ls 2 [(0, .ref h0), (1, .int k)] := hl
  refine lv_aload_n hx hb d_Co_links_0 rfl (lv_at hl 0 rfl) ?_
  refine lv_iload_n hx hb d_Co_links_1 rfl (lv_at hl 1 rfl) ?_
  have hPc := hP.sub (ws' := [(h0, .inr (1, [.ref x1, .ref x2, .ref x3, .int 0]))]) [0] rfl
  have hDc := hD.sub (ws' := [(h0, .inr (1, [.ref x1, .ref x2, .ref x3, .int 0]))]) [0] (by decide) rfl
  refine vp_callSi (va_Run.run (va_runV (As := [.int k]) (rest := []) ⟨hx, hb, hml, hown, hts⟩ (c_Co_isOne l G _ h0 x1 x2 x3 k) (cwV 1 hts (nn_gV mw_325 mw_322 mw_324 mw_1 mw_92) rfl rfl rfl (by decide +kernel) ⟨Nat.le_of_ble_eq_true rfl, Nat.le_of_ble_eq_true rfl⟩) (nn_preV (va_recv hK hP rfl (q0 := 0) rfl) hPc hDc hK hN) rfl rfl hl.1 rfl (lv_room (Nat.le_of_ble_eq_true rfl)) d_Co_links_2 ⟨(Nat.le_of_ble_eq_true rfl), (Nat.le_of_ble_eq_true rfl)⟩)) (fun r1 er1 => ?_)
  subst er1
  refine lv_if_eq (tgt := 17) hx hb d_Co_links_5 rfl (fun _ => ?_) (fun h => absurd (by decide) h)
  refine lv_iconst (v := 0) hx hb d_Co_links_17 (by decide) ?_
  exact W.iret (v := 0) hx hb hr (fun t ht hW => ⟨0, rfl, rfl, ht⟩) (fun q h => by cases h) d_Co_links_18

theorem d_Co_operand_0 : decode b_Co_operand 0 = .ok (.aload_n 0, 1) := by decide +kernel
theorem d_Co_operand_1 : decode b_Co_operand 1 = .ok (.iload_n 1, 1) := by decide +kernel
theorem d_Co_operand_2 : decode b_Co_operand 2 = .ok (.invokevirtual 25, 3) := by decide +kernel
theorem d_Co_operand_5 : decode b_Co_operand 5 = .ok (.ifCond .eq 12, 3) := by decide +kernel
theorem d_Co_operand_17 : decode b_Co_operand 17 = .ok (.iconst 0, 1) := by decide +kernel
theorem d_Co_operand_18 : decode b_Co_operand 18 = .ok (.ireturn, 1) := by decide +kernel

set_option maxHeartbeats 4000000 in
set_option maxRecDepth 100000 in
theorem c_Co_operand (l : Launch) (G : nn_G) (sz : Nat) (h0 x1 x2 x3 : Nat) (k : Int32) : Met l y_Co_operand w_Co_operand ({ frames := 1, cells := 0, slots := 0, locals := 21 }) (nn_P G [.ref h0, .int k] [(h0, .inr (1, [.ref x1, .ref x2, .ref x3, .int 0]))] sz) (vp_Si (fun r => r = 0)) 0 0 (fun _ => False) := by
  refine Met.ofW (cc := b_Co_operand) (maxL := 2) (ret := some .int) (by decide) rfl ?_
  intro p e s m args below meth c s₁ B hml hv
  obtain ⟨rfl, hsz, hP, hK, hD0, hN⟩ := hv
  have hx := B.exec
  have hb := B.bytes
  have hr := B.returns
  have hts := atoms_spec (ws := w_Co_operand) B.pre
  have hg : ∀ w ∈ nn_gw, w.before _ s = true := fun w h => hts w (List.mem_cons_of_mem _ h)
  have hown : s.vm.findClass R_Co = some m.cls := findClass_of_methodNamed B.named
  have hlocks := B.notSynchronized
  subst hsz
  have hD := hD0
  generalize hAe : (fun _ : Nat => True) = A at hD
  have hA : ∀ q : Nat, s.heap.size ≤ q → A q := fun q h => by rw [← hAe]; trivial
  have hS : va_S A s.heap s.heap [] := va_S.rf
  have hP : va_P G.1 nn_cls [(h0, .inr (1, [.ref x1, .ref x2, .ref x3, .int 0]))] s.heap := hP
  have hl := lv_entry ([.ref h0, .int k]) (n := 2) (Nat.le_of_ble_eq_true rfl)
  rw [lg_entry_eq]
  generalize (lg_sl ([.ref h0, .int k]) ++ List.replicate (2 - (lg_sl ([.ref h0, .int k])).length) Slot.unset).toArray = ls at hl ⊢
  have hl : lv_has ls 2 [(0, .ref h0), (1, .int k)] := hl
  refine lv_aload_n hx hb d_Co_operand_0 rfl (lv_at hl 0 rfl) ?_
  refine lv_iload_n hx hb d_Co_operand_1 rfl (lv_at hl 1 rfl) ?_
  have hPc := hP.sub (ws' := [(h0, .inr (1, [.ref x1, .ref x2, .ref x3, .int 0]))]) [0] rfl
  have hDc := hD.sub (ws' := [(h0, .inr (1, [.ref x1, .ref x2, .ref x3, .int 0]))]) [0] (by decide) rfl
  refine vp_callSi (va_Run.run (va_runV (As := [.int k]) (rest := []) ⟨hx, hb, hml, hown, hts⟩ (c_Co_isOne l G _ h0 x1 x2 x3 k) (cwV 1 hts (nn_gV mw_325 mw_322 mw_324 mw_1 mw_92) rfl rfl rfl (by decide +kernel) ⟨Nat.le_of_ble_eq_true rfl, Nat.le_of_ble_eq_true rfl⟩) (nn_preV (va_recv hK hP rfl (q0 := 0) rfl) hPc hDc hK hN) rfl rfl hl.1 rfl (lv_room (Nat.le_of_ble_eq_true rfl)) d_Co_operand_2 ⟨(Nat.le_of_ble_eq_true rfl), (Nat.le_of_ble_eq_true rfl)⟩)) (fun r1 er1 => ?_)
  subst er1
  refine lv_if_eq (tgt := 17) hx hb d_Co_operand_5 rfl (fun _ => ?_) (fun h => absurd (by decide) h)
  refine lv_iconst (v := 0) hx hb d_Co_operand_17 (by decide) ?_
  exact W.iret (v := 0) hx hb hr (fun t ht hW => ⟨0, rfl, rfl, ht⟩) (fun q h => by cases h) d_Co_operand_18
