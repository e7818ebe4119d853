/-! contracts (by wip/p1/gen.py) -/
set_option maxHeartbeats 4000000 in
set_option maxRecDepth 100000 in
theorem c_Ts_init (l : Launch) (G : nn_G) (sz : Nat) (h0 : Nat) : Met l y_Ts_init w_Ts_init ({ frames := 1, cells := 3, slots := 543, locals := 12 }) (nn_P G [.ref h0] [(h0, .inr (6, [.null, .null, .null, .int 0, .int 0]))] sz) (va_Qv (fun u : Nat × Nat × Nat => True) (fun u t => va_P G.1 nn_cls [(h0, .inr (6, [.ref u.1, .ref u.2.1, .ref u.2.2, .int 0, .int 0])), (u.1, .inl (G.2 3, 181, .inr (.inr (.inr (.inr (fun _ => none)))))), (u.2.1, .inl (G.2 0, 181, .inl (fun _ => 0))), (u.2.2, .inl (G.2 0, 181, .inl (fun _ => 0)))] t.heap ∧ va_D (va_A [(h0, .inr (6, [.null, .null, .null, .int 0, .int 0]))] sz) [(h0, .inr (6, [.ref u.1, .ref u.2.1, .ref u.2.2, .int 0, .int 0])), (u.1, .inl (G.2 3, 181, .inr (.inr (.inr (.inr (fun _ => none)))))), (u.2.1, .inl (G.2 0, 181, .inl (fun _ => 0))), (u.2.2, .inl (G.2 0, 181, .inl (fun _ => 0)))]) (va_A [(h0, .inr (6, [.null, .null, .null, .int 0, .int 0]))] sz)) 3 543 (va_A [(h0, .inr (6, [.null, .null, .null, .int 0, .int 0]))] sz) := by
  refine Met.ofW (cc := b_Ts_init) (maxL := 1) (ret := none) (by decide) rfl ?_
  intro p e s m args below meth c s₁ B hml hv
  obtain ⟨rfl, hsz, hP, hK, hD0, hN⟩ := hv
  have hx := B.exec
  have hb := B.bytes
  have hr := B.returns
  have hts := atoms_spec (ws := w_Ts_init) B.pre
  have hg : ∀ w ∈ nn_gw, w.before _ s = true := fun w h => hts w (List.mem_cons_of_mem _ h)
  have hown : s.vm.findClass R_Ts = some m.cls := findClass_of_methodNamed B.named
  have hlocks := B.notSynchronized
  have hin : meth.name = "<init>" := (name_of_methodNamed B.named B.method).1
  subst hsz
  have hD := hD0.self (sz := s.heap.size)
  generalize hAe : va_A [(h0, .inr (6, [.null, .null, .null, .int 0, .int 0]))] s.heap.size = A at hD ⊢
  have hA : ∀ q : Nat, s.heap.size ≤ q → A q := fun q h => by rw [← hAe]; exact Or.inr h
  have hS : va_S A s.heap s.heap [] := va_S.rf
  have hP : va_P G.1 nn_cls [(h0, .inr (6, [.null, .null, .null, .int 0, .int 0]))] s.heap := hP
  have hl := lv_entry ([.ref h0]) (n := 1) (Nat.le_of_ble_eq_true rfl)
  rw [lg_entry_eq]
  generalize (lg_sl ([.ref h0]) ++ List.replicate (1 - (lg_sl ([.ref h0])).length) Slot.unset).toArray = ls at hl ⊢
  have hl : lv_has ls 1 [(0, .ref h0)] := hl
  refine lv_aload_n hx hb d_Ts_init_0 rfl (lv_at hl 0 rfl) ?_
  refine W.objInit hx hb hown (hg _ mw_128) (hg _ mw_115) (hg _ nn_oc) rfl (by rw [hml]; exact hl.1) rfl d_Ts_init_1 (Nat.le_of_ble_eq_true rfl) (Nat.le_of_ble_eq_true rfl) ?_
  refine W.eq (g2 := F0 m 4 ls []) rfl ?_
  refine lv_aload_n hx hb d_Ts_init_4 rfl (lv_at hl 0 rfl) ?_
  refine lv_sipush (v := 181) hx hb d_Ts_init_5 (by decide) ?_
  refine nb_newq (N' := 181) (C := "NestPascal$Token") (cA := G.2 3) hx hb hown (hg _ mw_129) (hN _ (by decide)) hK hP hD hS hA 3 rfl (by decide) (by decide) (by decide) (Nat.le_of_ble_eq_true rfl) (Nat.le_of_ble_eq_true rfl) d_Ts_init_8 (fun q1 H hP hD hS => ?_)
  have hP : va_P G.1 nn_cls [(h0, .inr (6, [.null, .null, .null, .int 0, .int 0])), (q1, .inl (G.2 3, 181, .inr (.inr (.inr (.inr (fun _ => none))))))] H := hP
  have hD : va_D A [(h0, .inr (6, [.null, .null, .null, .int 0, .int 0])), (q1, .inl (G.2 3, 181, .inr (.inr (.inr (.inr (fun _ => none))))))] := hD
  refine W.widen (k := 1) (n := 181) (Nat.le_of_ble_eq_true rfl) (Nat.le_of_ble_eq_true rfl) ?_
  refine va_putF (D := G.1) (ci := 6) (v := .ref q1) (ty := .array (.object "NestPascal$Token")) (C := R_Ts) (T := T_Ts) (N := 5) hx hb hg in_Ts t_Ts ok_Ts nm_Ts hown hK hP hD hS 0 rfl rfl 0 (by decide) (hg _ mw_131) (fun _ h9 => h9) rfl hin rfl (by decide +kernel) rfl rfl (Nat.le_of_ble_eq_true rfl) d_Ts_init_11 (fun H locs hP hD hS => ?_)
  have hP : va_P G.1 nn_cls [(h0, .inr (6, [.ref q1, .null, .null, .int 0, .int 0])), (q1, .inl (G.2 3, 181, .inr (.inr (.inr (.inr (fun _ => none))))))] H := hP
  have hD : va_D A [(h0, .inr (6, [.ref q1, .null, .null, .int 0, .int 0])), (q1, .inl (G.2 3, 181, .inr (.inr (.inr (.inr (fun _ => none))))))] := hD
  refine lv_aload_n hx hb d_Ts_init_14 rfl (lv_at hl 0 rfl) ?_
  refine lv_sipush (v := 181) hx hb d_Ts_init_15 (by decide) ?_
  refine nb_newa (atype := .int) (a0 := (181, .inl (fun _ => 0))) (N' := 181) (ty := .int) (cA := G.2 0) hx hb (hg _ mw_148) rfl hK hP hD hS hA 0 rfl (fun _ => rfl) (by decide) (by decide) (by decide) (Nat.le_of_ble_eq_true rfl) (Nat.le_of_ble_eq_true rfl) d_Ts_init_18 (fun q2 H hP hD hS => ?_)
  have hP : va_P G.1 nn_cls [(h0, .inr (6, [.ref q1, .null, .null, .int 0, .int 0])), (q1, .inl (G.2 3, 181, .inr (.inr (.inr (.inr (fun _ => none)))))), (q2, .inl (G.2 0, 181, .inl (fun _ => 0)))] H := hP
  have hD : va_D A [(h0, .inr (6, [.ref q1, .null, .null, .int 0, .int 0])), (q1, .inl (G.2 3, 181, .inr (.inr (.inr (.inr (fun _ => none)))))), (q2, .inl (G.2 0, 181, .inl (fun _ => 0)))] := hD
  refine W.widen (k := 2) (n := 362) (Nat.le_of_ble_eq_true rfl) (Nat.le_of_ble_eq_true rfl) ?_
  refine va_putF (D := G.1) (ci := 6) (v := .ref q2) (ty := .array .int) (C := R_Ts) (T := T_Ts) (N := 5) hx hb hg in_Ts t_Ts ok_Ts nm_Ts hown hK hP hD hS 0 rfl rfl 1 (by decide) (hg _ mw_132) (fun _ h9 => h9) rfl hin rfl (by decide +kernel) rfl rfl (Nat.le_of_ble_eq_true rfl) d_Ts_init_20 (fun H locs hP hD hS => ?_)
  have hP : va_P G.1 nn_cls [(h0, .inr (6, [.ref q1, .ref q2, .null, .int 0, .int 0])), (q1, .inl (G.2 3, 181, .inr (.inr (.inr (.inr (fun _ => none)))))), (q2, .inl (G.2 0, 181, .inl (fun _ => 0)))] H := hP
  have hD : va_D A [(h0, .inr (6, [.ref q1, .ref q2, .null, .int 0, .int 0])), (q1, .inl (G.2 3, 181, .inr (.inr (.inr (.inr (fun _ => none)))))), (q2, .inl (G.2 0, 181, .inl (fun _ => 0)))] := hD
  refine lv_aload_n hx hb d_Ts_init_23 rfl (lv_at hl 0 rfl) ?_
  refine lv_sipush (v := 181) hx hb d_Ts_init_24 (by decide) ?_
  refine nb_newa (atype := .int) (a0 := (181, .inl (fun _ => 0))) (N' := 181) (ty := .int) (cA := G.2 0) hx hb (hg _ mw_148) rfl hK hP hD hS hA 0 rfl (fun _ => rfl) (by decide) (by decide) (by decide) (Nat.le_of_ble_eq_true rfl) (Nat.le_of_ble_eq_true rfl) d_Ts_init_27 (fun q3 H hP hD hS => ?_)
  have hP : va_P G.1 nn_cls [(h0, .inr (6, [.ref q1, .ref q2, .null, .int 0, .int 0])), (q1, .inl (G.2 3, 181, .inr (.inr (.inr (.inr (fun _ => none)))))), (q2, .inl (G.2 0, 181, .inl (fun _ => 0))), (q3, .inl (G.2 0, 181, .inl (fun _ => 0)))] H := hP
  have hD : va_D A [(h0, .inr (6, [.ref q1, .ref q2, .null, .int 0, .int 0])), (q1, .inl (G.2 3, 181, .inr (.inr (.inr (.inr (fun _ => none)))))), (q2, .inl (G.2 0, 181, .inl (fun _ => 0))), (q3, .inl (G.2 0, 181, .inl (fun _ => 0)))] := hD
  refine W.widen (k := 3) (n := 543) (Nat.le_of_ble_eq_true rfl) (Nat.le_of_ble_eq_true rfl) ?_
  refine va_putF (D := G.1) (ci := 6) (v := .ref q3) (ty := .array .int) (C := R_Ts) (T := T_Ts) (N := 5) hx hb hg in_Ts t_Ts ok_Ts nm_Ts hown hK hP hD hS 0 rfl rfl 2 (by decide) (hg _ mw_133) (fun _ h9 => h9) rfl hin rfl (by decide +kernel) rfl rfl (Nat.le_of_ble_eq_true rfl) d_Ts_init_29 (fun H locs hP hD hS => ?_)
  have hP : va_P G.1 nn_cls [(h0, .inr (6, [.ref q1, .ref q2, .ref q3, .int 0, .int 0])), (q1, .inl (G.2 3, 181, .inr (.inr (.inr (.inr (fun _ => none)))))), (q2, .inl (G.2 0, 181, .inl (fun _ => 0))), (q3, .inl (G.2 0, 181, .inl (fun _ => 0)))] H := hP
  have hD : va_D A [(h0, .inr (6, [.ref q1, .ref q2, .ref q3, .int 0, .int 0])), (q1, .inl (G.2 3, 181, .inr (.inr (.inr (.inr (fun _ => none)))))), (q2, .inl (G.2 0, 181, .inl (fun _ => 0))), (q3, .inl (G.2 0, 181, .inl (fun _ => 0)))] := hD
  refine lv_aload_n hx hb d_Ts_init_32 rfl (lv_at hl 0 rfl) ?_
  refine lv_iconst (v := 0) hx hb d_Ts_init_33 (by decide) ?_
  refine va_put (D := G.1) (ci := 6) (v := .int 0) (ty := .int) (C := R_Ts) (T := T_Ts) (N := 5) hx hb hg in_Ts t_Ts ok_Ts nm_Ts hown hK hP hD hS 0 rfl rfl 3 (by decide) (hg _ mw_134) (fun _ h9 => h9) rfl (by decide +kernel) rfl rfl (Nat.le_of_ble_eq_true rfl) d_Ts_init_34 (fun H locs hP hD hS => ?_)
  have hP : va_P G.1 nn_cls [(h0, .inr (6, [.ref q1, .ref q2, .ref q3, .int 0, .int 0])), (q1, .inl (G.2 3, 181, .inr (.inr (.inr (.inr (fun _ => none)))))), (q2, .inl (G.2 0, 181, .inl (fun _ => 0))), (q3, .inl (G.2 0, 181, .inl (fun _ => 0)))] H := hP
  have hD : va_D A [(h0, .inr (6, [.ref q1, .ref q2, .ref q3, .int 0, .int 0])), (q1, .inl (G.2 3, 181, .inr (.inr (.inr (.inr (fun _ => none)))))), (q2, .inl (G.2 0, 181, .inl (fun _ => 0))), (q3, .inl (G.2 0, 181, .inl (fun _ => 0)))] := hD
  refine lv_aload_n hx hb d_Ts_init_37 rfl (lv_at hl 0 rfl) ?_
  refine lv_iconst (v := 0) hx hb d_Ts_init_38 (by decide) ?_
  refine va_put (D := G.1) (ci := 6) (v := .int 0) (ty := .int) (C := R_Ts) (T := T_Ts) (N := 5) hx hb hg in_Ts t_Ts ok_Ts nm_Ts hown hK hP hD hS 0 rfl rfl 4 (by decide) (hg _ mw_135) (fun _ h9 => h9) rfl (by decide +kernel) rfl rfl (Nat.le_of_ble_eq_true rfl) d_Ts_init_39 (fun H locs hP hD hS => ?_)
  have hP : va_P G.1 nn_cls [(h0, .inr (6, [.ref q1, .ref q2, .ref q3, .int 0, .int 0])), (q1, .inl (G.2 3, 181, .inr (.inr (.inr (.inr (fun _ => none)))))), (q2, .inl (G.2 0, 181, .inl (fun _ => 0))), (q3, .inl (G.2 0, 181, .inl (fun _ => 0)))] H := hP
  have hD : va_D A [(h0, .inr (6, [.ref q1, .ref q2, .ref q3, .int 0, .int 0])), (q1, .inl (G.2 3, 181, .inr (.inr (.inr (.inr (fun _ => none)))))), (q2, .inl (G.2 0, 181, .inl (fun _ => 0))), (q3, .inl (G.2 0, 181, .inl (fun _ => 0)))] := hD
  refine W.widen (k := 3) (n := 543) (Nat.le_of_ble_eq_true rfl) (Nat.le_of_ble_eq_true rfl) ?_
  have hP9 := hP.sub (ws' := [(h0, .inr (6, [.ref q1, .ref q2, .ref q3, .int 0, .int 0])), (q1, .inl (G.2 3, 181, .inr (.inr (.inr (.inr (fun _ => none)))))), (q2, .inl (G.2 0, 181, .inl (fun _ => 0))), (q3, .inl (G.2 0, 181, .inl (fun _ => 0)))]) [0, 1, 2, 3] rfl
  have hD9 := hD.sub (ws' := [(h0, .inr (6, [.ref q1, .ref q2, .ref q3, .int 0, .int 0])), (q1, .inl (G.2 3, 181, .inr (.inr (.inr (.inr (fun _ => none)))))), (q2, .inl (G.2 0, 181, .inl (fun _ => 0))), (q3, .inl (G.2 0, 181, .inl (fun _ => 0)))]) [0, 1, 2, 3] (by decide) rfl
  exact W.vret hx hb hr (fun t ht hW => ⟨⟨(q1, q2, q3), rfl, trivial, ⟨by rw [ht]; exact hP9, hD9⟩⟩, hS.F ht⟩) hS.2.2 d_Ts_init_42

set_option maxHeartbeats 4000000 in
set_option maxRecDepth 100000 in
theorem c_Nm_init (l : Launch) (G : nn_G) (sz : Nat) (h0 : Nat) : Met l y_Nm_init w_Nm_init ({ frames := 1, cells := 0, slots := 0, locals := 12 }) (nn_P G [.ref h0] [(h0, .inr (4, [.int 0, .int 0, .int 0, .int 0, .int 0]))] sz) (va_Qv (fun u : Unit => True) (fun u t => va_P G.1 nn_cls [(h0, .inr (4, [.int 0, .int 0, .int 0, .int 0, .int 0]))] t.heap ∧ va_D (va_A [(h0, .inr (4, [.int 0, .int 0, .int 0, .int 0, .int 0]))] sz) [(h0, .inr (4, [.int 0, .int 0, .int 0, .int 0, .int 0]))]) (va_A [(h0, .inr (4, [.int 0, .int 0, .int 0, .int 0, .int 0]))] sz)) 0 0 (va_A [(h0, .inr (4, [.int 0, .int 0, .int 0, .int 0, .int 0]))] sz) := by
  refine Met.ofW (cc := b_Nm_init) (maxL := 1) (ret := none) (by decide) rfl ?_
  intro p e s m args below meth c s₁ B hml hv
  obtain ⟨rfl, hsz, hP, hK, hD0, hN⟩ := hv
  have hx := B.exec
  have hb := B.bytes
  have hr := B.returns
  have hts := atoms_spec (ws := w_Nm_init) B.pre
  have hg : ∀ w ∈ nn_gw, w.before _ s = true := fun w h => hts w (List.mem_cons_of_mem _ h)
  have hown : s.vm.findClass R_Nm = some m.cls := findClass_of_methodNamed B.named
  have hlocks := B.notSynchronized
  have hin : meth.name = "<init>" := (name_of_methodNamed B.named B.method).1
  subst hsz
  have hD := hD0.self (sz := s.heap.size)
  generalize hAe : va_A [(h0, .inr (4, [.int 0, .int 0, .int 0, .int 0, .int 0]))] s.heap.size = A at hD ⊢
  have hA : ∀ q : Nat, s.heap.size ≤ q → A q := fun q h => by rw [← hAe]; exact Or.inr h
  have hS : va_S A s.heap s.heap [] := va_S.rf
  have hP : va_P G.1 nn_cls [(h0, .inr (4, [.int 0, .int 0, .int 0, .int 0, .int 0]))] s.heap := hP
  have hl := lv_entry ([.ref h0]) (n := 1) (Nat.le_of_ble_eq_true rfl)
  rw [lg_entry_eq]
  generalize (lg_sl ([.ref h0]) ++ List.replicate (1 - (lg_sl ([.ref h0])).length) Slot.unset).toArray = ls at hl ⊢
  have hl : lv_has ls 1 [(0, .ref h0)] := hl
  refine lv_aload_n hx hb d_Nm_init_0 rfl (lv_at hl 0 rfl) ?_
  refine W.objInit hx hb hown (hg _ mw_161) (hg _ mw_115) (hg _ nn_oc) rfl (by rw [hml]; exact hl.1) rfl d_Nm_init_1 (Nat.le_of_ble_eq_true rfl) (Nat.le_of_ble_eq_true rfl) ?_
  refine W.eq (g2 := F0 m 4 ls []) rfl ?_
  refine lv_aload_n hx hb d_Nm_init_4 rfl (lv_at hl 0 rfl) ?_
  refine lv_iconst (v := 0) hx hb d_Nm_init_5 (by decide) ?_
  refine va_put (D := G.1) (ci := 4) (v := .int 0) (ty := .int) (C := R_Nm) (T := T_Nm) (N := 5) hx hb hg in_Nm t_Nm ok_Nm nm_Nm hown hK hP hD hS 0 rfl rfl 0 (by decide) (hg _ mw_162) (fun _ h9 => h9) rfl (by decide +kernel) rfl rfl (Nat.le_of_ble_eq_true rfl) d_Nm_init_6 (fun H locs hP hD hS => ?_)
  have hP : va_P G.1 nn_cls [(h0, .inr (4, [.int 0, .int 0, .int 0, .int 0, .int 0]))] H := hP
  have hD : va_D A [(h0, .inr (4, [.int 0, .int 0, .int 0, .int 0, .int 0]))] := hD
  refine lv_aload_n hx hb d_Nm_init_9 rfl (lv_at hl 0 rfl) ?_
  refine lv_iconst (v := 0) hx hb d_Nm_init_10 (by decide) ?_
  refine va_put (D := G.1) (ci := 4) (v := .int 0) (ty := .int) (C := R_Nm) (T := T_Nm) (N := 5) hx hb hg in_Nm t_Nm ok_Nm nm_Nm hown hK hP hD hS 0 rfl rfl 1 (by decide) (hg _ mw_164) (fun _ h9 => h9) rfl (by decide +kernel) rfl rfl (Nat.le_of_ble_eq_true rfl) d_Nm_init_11 (fun H locs hP hD hS => ?_)
  have hP : va_P G.1 nn_cls [(h0, .inr (4, [.int 0, .int 0, .int 0, .int 0, .int 0]))] H := hP
  have hD : va_D A [(h0, .inr (4, [.int 0, .int 0, .int 0, .int 0, .int 0]))] := hD
  refine lv_aload_n hx hb d_Nm_init_14 rfl (lv_at hl 0 rfl) ?_
  refine lv_iconst (v := 0) hx hb d_Nm_init_15 (by decide) ?_
  refine va_put (D := G.1) (ci := 4) (v := .int 0) (ty := .int) (C := R_Nm) (T := T_Nm) (N := 5) hx hb hg in_Nm t_Nm ok_Nm nm_Nm hown hK hP hD hS 0 rfl rfl 2 (by decide) (hg _ mw_167) (fun _ h9 => h9) rfl (by decide +kernel) rfl rfl (Nat.le_of_ble_eq_true rfl) d_Nm_init_16 (fun H locs hP hD hS => ?_)
  have hP : va_P G.1 nn_cls [(h0, .inr (4, [.int 0, .int 0, .int 0, .int 0, .int 0]))] H := hP
  have hD : va_D A [(h0, .inr (4, [.int 0, .int 0, .int 0, .int 0, .int 0]))] := hD
  refine lv_aload_n hx hb d_Nm_init_19 rfl (lv_at hl 0 rfl) ?_
  refine lv_iconst (v := 0) hx hb d_Nm_init_20 (by decide) ?_
  refine va_put (D := G.1) (ci := 4) (v := .int 0) (ty := .int) (C := R_Nm) (T := T_Nm) (N := 5) hx hb hg in_Nm t_Nm ok_Nm nm_Nm hown hK hP hD hS 0 rfl rfl 3 (by decide) (hg _ mw_170) (fun _ h9 => h9) rfl (by decide +kernel) rfl rfl (Nat.le_of_ble_eq_true rfl) d_Nm_init_21 (fun H locs hP hD hS => ?_)
  have hP : va_P G.1 nn_cls [(h0, .inr (4, [.int 0, .int 0, .int 0, .int 0, .int 0]))] H := hP
  have hD : va_D A [(h0, .inr (4, [.int 0, .int 0, .int 0, .int 0, .int 0]))] := hD
  refine lv_aload_n hx hb d_Nm_init_24 rfl (lv_at hl 0 rfl) ?_
  refine lv_iconst (v := 0) hx hb d_Nm_init_25 (by decide) ?_
  refine va_put (D := G.1) (ci := 4) (v := .int 0) (ty := .int) (C := R_Nm) (T := T_Nm) (N := 5) hx hb hg in_Nm t_Nm ok_Nm nm_Nm hown hK hP hD hS 0 rfl rfl 4 (by decide) (hg _ mw_173) (fun _ h9 => h9) rfl (by decide +kernel) rfl rfl (Nat.le_of_ble_eq_true rfl) d_Nm_init_26 (fun H locs hP hD hS => ?_)
  have hP : va_P G.1 nn_cls [(h0, .inr (4, [.int 0, .int 0, .int 0, .int 0, .int 0]))] H := hP
  have hD : va_D A [(h0, .inr (4, [.int 0, .int 0, .int 0, .int 0, .int 0]))] := hD
  refine W.widen (k := 0) (n := 0) (Nat.le_of_ble_eq_true rfl) (Nat.le_of_ble_eq_true rfl) ?_
  have hP9 := hP.sub (ws' := [(h0, .inr (4, [.int 0, .int 0, .int 0, .int 0, .int 0]))]) [0] rfl
  have hD9 := hD.sub (ws' := [(h0, .inr (4, [.int 0, .int 0, .int 0, .int 0, .int 0]))]) [0] (by decide) rfl
  exact W.vret hx hb hr (fun t ht hW => ⟨⟨(), rfl, trivial, ⟨by rw [ht]; exact hP9, hD9⟩⟩, hS.F ht⟩) hS.2.2 d_Nm_init_29

set_option maxHeartbeats 4000000 in
set_option maxRecDepth 100000 in
theorem c_Ma_init (l : Launch) (G : nn_G) (sz : Nat) (h0 : Nat) : Met l y_Ma_init w_Ma_init ({ frames := 1, cells := 2, slots := 208, locals := 12 }) (nn_P G [.ref h0] [(h0, .inr (3, [.null, .null, .int 0, .int 0, .int 0, .int 0, .int 0, .int 0]))] sz) (va_Qv (fun u : Nat × Nat => True) (fun u t => va_P G.1 nn_cls [(h0, .inr (3, [.ref u.1, .ref u.2, .int 0, .int 0, .int 0, .int (-1), .int 0, .int 0])), (u.1, .inl (G.2 0, 200, .inl (fun _ => 0))), (u.2, .inl (G.2 0, 8, .inl (fun _ => 0)))] t.heap ∧ va_D (va_A [(h0, .inr (3, [.null, .null, .int 0, .int 0, .int 0, .int 0, .int 0, .int 0]))] sz) [(h0, .inr (3, [.ref u.1, .ref u.2, .int 0, .int 0, .int 0, .int (-1), .int 0, .int 0])), (u.1, .inl (G.2 0, 200, .inl (fun _ => 0))), (u.2, .inl (G.2 0, 8, .inl (fun _ => 0)))]) (va_A [(h0, .inr (3, [.null, .null, .int 0, .int 0, .int 0, .int 0, .int 0, .int 0]))] sz)) 2 208 (va_A [(h0, .inr (3, [.null, .null, .int 0, .int 0, .int 0, .int 0, .int 0, .int 0]))] sz) := by
  refine Met.ofW (cc := b_Ma_init) (maxL := 1) (ret := none) (by decide) rfl ?_
  intro p e s m args below meth c s₁ B hml hv
  obtain ⟨rfl, hsz, hP, hK, hD0, hN⟩ := hv
  have hx := B.exec
  have hb := B.bytes
  have hr := B.returns
  have hts := atoms_spec (ws := w_Ma_init) B.pre
  have hg : ∀ w ∈ nn_gw, w.before _ s = true := fun w h => hts w (List.mem_cons_of_mem _ h)
  have hown : s.vm.findClass R_Ma = some m.cls := findClass_of_methodNamed B.named
  have hlocks := B.notSynchronized
  have hin : meth.name = "<init>" := (name_of_methodNamed B.named B.method).1
  subst hsz
  have hD := hD0.self (sz := s.heap.size)
  generalize hAe : va_A [(h0, .inr (3, [.null, .null, .int 0, .int 0, .int 0, .int 0, .int 0, .int 0]))] s.heap.size = A at hD ⊢
  have hA : ∀ q : Nat, s.heap.size ≤ q → A q := fun q h => by rw [← hAe]; exact Or.inr h
  have hS : va_S A s.heap s.heap [] := va_S.rf
  have hP : va_P G.1 nn_cls [(h0, .inr (3, [.null, .null, .int 0, .int 0, .int 0, .int 0, .int 0, .int 0]))] s.heap := hP
  have hl := lv_entry ([.ref h0]) (n := 1) (Nat.le_of_ble_eq_true rfl)
  rw [lg_entry_eq]
  generalize (lg_sl ([.ref h0]) ++ List.replicate (1 - (lg_sl ([.ref h0])).length) Slot.unset).toArray = ls at hl ⊢
  have hl : lv_has ls 1 [(0, .ref h0)] := hl
  refine lv_aload_n hx hb d_Ma_init_0 rfl (lv_at hl 0 rfl) ?_
  refine W.objInit hx hb hown (hg _ mw_245) (hg _ mw_115) (hg _ nn_oc) rfl (by rw [hml]; exact hl.1) rfl d_Ma_init_1 (Nat.le_of_ble_eq_true rfl) (Nat.le_of_ble_eq_true rfl) ?_
  refine W.eq (g2 := F0 m 4 ls []) rfl ?_
  refine lv_aload_n hx hb d_Ma_init_4 rfl (lv_at hl 0 rfl) ?_
  refine lv_sipush (v := 200) hx hb d_Ma_init_5 (by decide) ?_
  refine nb_newa (atype := .int) (a0 := (200, .inl (fun _ => 0))) (N' := 200) (ty := .int) (cA := G.2 0) hx hb (hg _ mw_148) rfl hK hP hD hS hA 0 rfl (fun _ => rfl) (by decide) (by decide) (by decide) (Nat.le_of_ble_eq_true rfl) (Nat.le_of_ble_eq_true rfl) d_Ma_init_8 (fun q1 H hP hD hS => ?_)
  have hP : va_P G.1 nn_cls [(h0, .inr (3, [.null, .null, .int 0, .int 0, .int 0, .int 0, .int 0, .int 0])), (q1, .inl (G.2 0, 200, .inl (fun _ => 0)))] H := hP
  have hD : va_D A [(h0, .inr (3, [.null, .null, .int 0, .int 0, .int 0, .int 0, .int 0, .int 0])), (q1, .inl (G.2 0, 200, .inl (fun _ => 0)))] := hD
  refine W.widen (k := 1) (n := 200) (Nat.le_of_ble_eq_true rfl) (Nat.le_of_ble_eq_true rfl) ?_
  refine va_putF (D := G.1) (ci := 3) (v := .ref q1) (ty := .array .int) (C := R_Ma) (T := T_Ma) (N := 8) hx hb hg in_Ma t_Ma ok_Ma nm_Ma hown hK hP hD hS 0 rfl rfl 0 (by decide) (hg _ mw_246) (fun _ h9 => h9) rfl hin rfl (by decide +kernel) rfl rfl (Nat.le_of_ble_eq_true rfl) d_Ma_init_10 (fun H locs hP hD hS => ?_)
  have hP : va_P G.1 nn_cls [(h0, .inr (3, [.ref q1, .null, .int 0, .int 0, .int 0, .int 0, .int 0, .int 0])), (q1, .inl (G.2 0, 200, .inl (fun _ => 0)))] H := hP
  have hD : va_D A [(h0, .inr (3, [.ref q1, .null, .int 0, .int 0, .int 0, .int 0, .int 0, .int 0])), (q1, .inl (G.2 0, 200, .inl (fun _ => 0)))] := hD
  refine lv_aload_n hx hb d_Ma_init_13 rfl (lv_at hl 0 rfl) ?_
  refine lv_bipush (v := 8) hx hb d_Ma_init_14 (by decide) ?_
  refine nb_newa (atype := .int) (a0 := (8, .inl (fun _ => 0))) (N' := 8) (ty := .int) (cA := G.2 0) hx hb (hg _ mw_148) rfl hK hP hD hS hA 0 rfl (fun _ => rfl) (by decide) (by decide) (by decide) (Nat.le_of_ble_eq_true rfl) (Nat.le_of_ble_eq_true rfl) d_Ma_init_16 (fun q2 H hP hD hS => ?_)
  have hP : va_P G.1 nn_cls [(h0, .inr (3, [.ref q1, .null, .int 0, .int 0, .int 0, .int 0, .int 0, .int 0])), (q1, .inl (G.2 0, 200, .inl (fun _ => 0))), (q2, .inl (G.2 0, 8, .inl (fun _ => 0)))] H := hP
  have hD : va_D A [(h0, .inr (3, [.ref q1, .null, .int 0, .int 0, .int 0, .int 0, .int 0, .int 0])), (q1, .inl (G.2 0, 200, .inl (fun _ => 0))), (q2, .inl (G.2 0, 8, .inl (fun _ => 0)))] := hD
  refine W.widen (k := 2) (n := 208) (Nat.le_of_ble_eq_true rfl) (Nat.le_of_ble_eq_true rfl) ?_
  refine va_putF (D := G.1) (ci := 3) (v := .ref q2) (ty := .array .int) (C := R_Ma) (T := T_Ma) (N := 8) hx hb hg in_Ma t_Ma ok_Ma nm_Ma hown hK hP hD hS 0 rfl rfl 1 (by decide) (hg _ mw_247) (fun _ h9 => h9) rfl hin rfl (by decide +kernel) rfl rfl (Nat.le_of_ble_eq_true rfl) d_Ma_init_18 (fun H locs hP hD hS => ?_)
  have hP : va_P G.1 nn_cls [(h0, .inr (3, [.ref q1, .ref q2, .int 0, .int 0, .int 0, .int 0, .int 0, .int 0])), (q1, .inl (G.2 0, 200, .inl (fun _ => 0))), (q2, .inl (G.2 0, 8, .inl (fun _ => 0)))] H := hP
  have hD : va_D A [(h0, .inr (3, [.ref q1, .ref q2, .int 0, .int 0, .int 0, .int 0, .int 0, .int 0])), (q1, .inl (G.2 0, 200, .inl (fun _ => 0))), (q2, .inl (G.2 0, 8, .inl (fun _ => 0)))] := hD
  refine lv_aload_n hx hb d_Ma_init_21 rfl (lv_at hl 0 rfl) ?_
  refine lv_iconst (v := 0) hx hb d_Ma_init_22 (by decide) ?_
  refine va_put (D := G.1) (ci := 3) (v := .int 0) (ty := .int) (C := R_Ma) (T := T_Ma) (N := 8) hx hb hg in_Ma t_Ma ok_Ma nm_Ma hown hK hP hD hS 0 rfl rfl 2 (by decide) (hg _ mw_248) (fun _ h9 => h9) rfl (by decide +kernel) rfl rfl (Nat.le_of_ble_eq_true rfl) d_Ma_init_23 (fun H locs hP hD hS => ?_)
  have hP : va_P G.1 nn_cls [(h0, .inr (3, [.ref q1, .ref q2, .int 0, .int 0, .int 0, .int 0, .int 0, .int 0])), (q1, .inl (G.2 0, 200, .inl (fun _ => 0))), (q2, .inl (G.2 0, 8, .inl (fun _ => 0)))] H := hP
  have hD : va_D A [(h0, .inr (3, [.ref q1, .ref q2, .int 0, .int 0, .int 0, .int 0, .int 0, .int 0])), (q1, .inl (G.2 0, 200, .inl (fun _ => 0))), (q2, .inl (G.2 0, 8, .inl (fun _ => 0)))] := hD
  refine lv_aload_n hx hb d_Ma_init_26 rfl (lv_at hl 0 rfl) ?_
  refine lv_iconst (v := 0) hx hb d_Ma_init_27 (by decide) ?_
  refine va_put (D := G.1) (ci := 3) (v := .int 0) (ty := .int) (C := R_Ma) (T := T_Ma) (N := 8) hx hb hg in_Ma t_Ma ok_Ma nm_Ma hown hK hP hD hS 0 rfl rfl 3 (by decide) (hg _ mw_249) (fun _ h9 => h9) rfl (by decide +kernel) rfl rfl (Nat.le_of_ble_eq_true rfl) d_Ma_init_28 (fun H locs hP hD hS => ?_)
  have hP : va_P G.1 nn_cls [(h0, .inr (3, [.ref q1, .ref q2, .int 0, .int 0, .int 0, .int 0, .int 0, .int 0])), (q1, .inl (G.2 0, 200, .inl (fun _ => 0))), (q2, .inl (G.2 0, 8, .inl (fun _ => 0)))] H := hP
  have hD : va_D A [(h0, .inr (3, [.ref q1, .ref q2, .int 0, .int 0, .int 0, .int 0, .int 0, .int 0])), (q1, .inl (G.2 0, 200, .inl (fun _ => 0))), (q2, .inl (G.2 0, 8, .inl (fun _ => 0)))] := hD
  refine lv_aload_n hx hb d_Ma_init_31 rfl (lv_at hl 0 rfl) ?_
  refine lv_iconst (v := 0) hx hb d_Ma_init_32 (by decide) ?_
  refine va_put (D := G.1) (ci := 3) (v := .int 0) (ty := .int) (C := R_Ma) (T := T_Ma) (N := 8) hx hb hg in_Ma t_Ma ok_Ma nm_Ma hown hK hP hD hS 0 rfl rfl 4 (by decide) (hg _ mw_250) (fun _ h9 => h9) rfl (by decide +kernel) rfl rfl (Nat.le_of_ble_eq_true rfl) d_Ma_init_33 (fun H locs hP hD hS => ?_)
  have hP : va_P G.1 nn_cls [(h0, .inr (3, [.ref q1, .ref q2, .int 0, .int 0, .int 0, .int 0, .int 0, .int 0])), (q1, .inl (G.2 0, 200, .inl (fun _ => 0))), (q2, .inl (G.2 0, 8, .inl (fun _ => 0)))] H := hP
  have hD : va_D A [(h0, .inr (3, [.ref q1, .ref q2, .int 0, .int 0, .int 0, .int 0, .int 0, .int 0])), (q1, .inl (G.2 0, 200, .inl (fun _ => 0))), (q2, .inl (G.2 0, 8, .inl (fun _ => 0)))] := hD
  refine lv_aload_n hx hb d_Ma_init_36 rfl (lv_at hl 0 rfl) ?_
  refine lv_iconst (v := (-1)) hx hb d_Ma_init_37 (by decide) ?_
  refine va_put (D := G.1) (ci := 3) (v := .int (-1)) (ty := .int) (C := R_Ma) (T := T_Ma) (N := 8) hx hb hg in_Ma t_Ma ok_Ma nm_Ma hown hK hP hD hS 0 rfl rfl 5 (by decide) (hg _ mw_251) (fun _ h9 => h9) rfl (by decide +kernel) rfl rfl (Nat.le_of_ble_eq_true rfl) d_Ma_init_38 (fun H locs hP hD hS => ?_)
  have hP : va_P G.1 nn_cls [(h0, .inr (3, [.ref q1, .ref q2, .int 0, .int 0, .int 0, .int (-1), .int 0, .int 0])), (q1, .inl (G.2 0, 200, .inl (fun _ => 0))), (q2, .inl (G.2 0, 8, .inl (fun _ => 0)))] H := hP
  have hD : va_D A [(h0, .inr (3, [.ref q1, .ref q2, .int 0, .int 0, .int 0, .int (-1), .int 0, .int 0])), (q1, .inl (G.2 0, 200, .inl (fun _ => 0))), (q2, .inl (G.2 0, 8, .inl (fun _ => 0)))] := hD
  refine lv_aload_n hx hb d_Ma_init_41 rfl (lv_at hl 0 rfl) ?_
  refine lv_iconst (v := 0) hx hb d_Ma_init_42 (by decide) ?_
  refine va_put (D := G.1) (ci := 3) (v := .int 0) (ty := .int) (C := R_Ma) (T := T_Ma) (N := 8) hx hb hg in_Ma t_Ma ok_Ma nm_Ma hown hK hP hD hS 0 rfl rfl 6 (by decide) (hg _ mw_252) (fun _ h9 => h9) rfl (by decide +kernel) rfl rfl (Nat.le_of_ble_eq_true rfl) d_Ma_init_43 (fun H locs hP hD hS => ?_)
  have hP : va_P G.1 nn_cls [(h0, .inr (3, [.ref q1, .ref q2, .int 0, .int 0, .int 0, .int (-1), .int 0, .int 0])), (q1, .inl (G.2 0, 200, .inl (fun _ => 0))), (q2, .inl (G.2 0, 8, .inl (fun _ => 0)))] H := hP
  have hD : va_D A [(h0, .inr (3, [.ref q1, .ref q2, .int 0, .int 0, .int 0, .int (-1), .int 0, .int 0])), (q1, .inl (G.2 0, 200, .inl (fun _ => 0))), (q2, .inl (G.2 0, 8, .inl (fun _ => 0)))] := hD
  refine lv_aload_n hx hb d_Ma_init_46 rfl (lv_at hl 0 rfl) ?_
  refine lv_iconst (v := 0) hx hb d_Ma_init_47 (by decide) ?_
  refine va_put (D := G.1) (ci := 3) (v := .int 0) (ty := .int) (C := R_Ma) (T := T_Ma) (N := 8) hx hb hg in_Ma t_Ma ok_Ma nm_Ma hown hK hP hD hS 0 rfl rfl 7 (by decide) (hg _ mw_253) (fun _ h9 => h9) rfl (by decide +kernel) rfl rfl (Nat.le_of_ble_eq_true rfl) d_Ma_init_48 (fun H locs hP hD hS => ?_)
  have hP : va_P G.1 nn_cls [(h0, .inr (3, [.ref q1, .ref q2, .int 0, .int 0, .int 0, .int (-1), .int 0, .int 0])), (q1, .inl (G.2 0, 200, .inl (fun _ => 0))), (q2, .inl (G.2 0, 8, .inl (fun _ => 0)))] H := hP
  have hD : va_D A [(h0, .inr (3, [.ref q1, .ref q2, .int 0, .int 0, .int 0, .int (-1), .int 0, .int 0])), (q1, .inl (G.2 0, 200, .inl (fun _ => 0))), (q2, .inl (G.2 0, 8, .inl (fun _ => 0)))] := hD
  refine W.widen (k := 2) (n := 208) (Nat.le_of_ble_eq_true rfl) (Nat.le_of_ble_eq_true rfl) ?_
  have hP9 := hP.sub (ws' := [(h0, .inr (3, [.ref q1, .ref q2, .int 0, .int 0, .int 0, .int (-1), .int 0, .int 0])), (q1, .inl (G.2 0, 200, .inl (fun _ => 0))), (q2, .inl (G.2 0, 8, .inl (fun _ => 0)))]) [0, 1, 2] rfl
  have hD9 := hD.sub (ws' := [(h0, .inr (3, [.ref q1, .ref q2, .int 0, .int 0, .int 0, .int (-1), .int 0, .int 0])), (q1, .inl (G.2 0, 200, .inl (fun _ => 0))), (q2, .inl (G.2 0, 8, .inl (fun _ => 0)))]) [0, 1, 2] (by decide) rfl
  exact W.vret hx hb hr (fun t ht hW => ⟨⟨(q1, q2), rfl, trivial, ⟨by rw [ht]; exact hP9, hD9⟩⟩, hS.F ht⟩) hS.2.2 d_Ma_init_51
