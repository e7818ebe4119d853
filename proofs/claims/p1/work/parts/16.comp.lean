/-! contracts (by wip/p1/gen.py) -/
theorem nb_topv {p : Program} {l : Launch} {e : Env} {R : Room} {s : State} {m : MethodId} {args : Array Value} {below : List Frame} {meth : Method} {c : Code} {H : Heap} {locs : List Loc} {cells slots : Nat} {Q : State → Prop} {pc : Nat} {ls : Array Slot} {rest : List Value} {x : Value} (v : Value) (h : x = v) (k : W p l e R s m args below meth c H locs cells slots Q (F0 m pc ls (v :: rest))) : W p l e R s m args below meth c H locs cells slots Q (F0 m pc ls (x :: rest)) := h ▸ k

theorem d_Ts_isAt_0 : decode b_Ts_isAt 0 = .ok (.aload_n 0, 1) := by decide +kernel
theorem d_Ts_isAt_1 : decode b_Ts_isAt 1 = .ok (.getfield 13, 3) := by decide +kernel
theorem d_Ts_isAt_4 : decode b_Ts_isAt 4 = .ok (.aload_n 0, 1) := by decide +kernel
theorem d_Ts_isAt_5 : decode b_Ts_isAt 5 = .ok (.getfield 28, 3) := by decide +kernel
theorem d_Ts_isAt_8 : decode b_Ts_isAt 8 = .ok (.aaload, 1) := by decide +kernel
theorem d_Ts_isAt_9 : decode b_Ts_isAt 9 = .ok (.aload_n 1, 1) := by decide +kernel
theorem d_Ts_isAt_10 : decode b_Ts_isAt 10 = .ok (.if_acmp .ne 7, 3) := by decide +kernel
theorem d_Ts_isAt_17 : decode b_Ts_isAt 17 = .ok (.iconst 0, 1) := by decide +kernel
theorem d_Ts_isAt_18 : decode b_Ts_isAt 18 = .ok (.ireturn, 1) := by decide +kernel

set_option maxHeartbeats 4000000 in
set_option maxRecDepth 100000 in
theorem c_Ts_isAt (l : Launch) (G : nn_G) (sz : Nat) (h0 x1 x2 x3 t0 kk : Nat) (hne : t0 ≠ kk) : Met l y_Ts_isAt w_Ts_isAt ({ frames := 0, cells := 0, slots := 0, locals := 0 }) (nn_P G [.ref h0, .ref kk] [(h0, .inr (6, [.ref x1, .ref x2, .ref x3, .int 1, .int 0])), (x1, .inl (G.2 3, 181, .inr (.inr (.inr (.inr (va_up (fun _ => none) (0 : Int32).toNatClampNeg (some t0)))))))] sz) (vp_Si (fun r => r = 0)) 0 0 (fun _ => False) := by
  refine Met.ofW (cc := b_Ts_isAt) (maxL := 2) (ret := some .boolean) (by decide) rfl ?_
  intro p e s m args below meth c s₁ B hml hv
  obtain ⟨rfl, hsz, hP, hK, hD0, hN⟩ := hv
  have hx := B.exec
  have hb := B.bytes
  have hr := B.returns
  have hts := atoms_spec (ws := w_Ts_isAt) B.pre
  have hg : ∀ w ∈ nn_gw, w.before _ s = true := fun w h => hts w (List.mem_cons_of_mem _ h)
  have hown : s.vm.findClass R_Ts = some m.cls := findClass_of_methodNamed B.named
  have hlocks := B.notSynchronized
  subst hsz
  have hD := hD0
  generalize hAe : (fun _ : Nat => True) = A at hD
  have hA : ∀ q : Nat, s.heap.size ≤ q → A q := fun q h => by rw [← hAe]; trivial
  have hS : va_S A s.heap s.heap [] := va_S.rf
  have hP : va_P G.1 nn_cls [(h0, .inr (6, [.ref x1, .ref x2, .ref x3, .int 1, .int 0])), (x1, .inl (G.2 3, 181, .inr (.inr (.inr (.inr (va_up (fun _ => none) (0 : Int32).toNatClampNeg (some t0)))))))] s.heap := hP
  have hl := lv_entry ([.ref h0, .ref kk]) (n := 2) (Nat.le_of_ble_eq_true rfl)
  rw [lg_entry_eq]
  generalize (lg_sl ([.ref h0, .ref kk]) ++ List.replicate (2 - (lg_sl ([.ref h0, .ref kk])).length) Slot.unset).toArray = ls at hl ⊢
  have hl : lv_has ls 2 [(0, .ref h0), (1, .ref kk)] := hl
  refine lv_aload_n hx hb d_Ts_isAt_0 rfl (lv_at hl 0 rfl) ?_
  refine va_get (D := G.1) (ci := 6) (v := .ref x1) (C := R_Ts) (T := T_Ts) (N := 5) hx hb hg in_Ts hown hK hP 0 rfl rfl 0 (by decide) (hg _ mw_131) (fun _ h9 => h9) rfl d_Ts_isAt_1 ?_
  refine lv_aload_n hx hb d_Ts_isAt_4 rfl (lv_at hl 0 rfl) ?_
  refine va_get (D := G.1) (ci := 6) (v := .int 0) (C := R_Ts) (T := T_Ts) (N := 5) hx hb hg in_Ts hown hK hP 0 rfl rfl 4 (by decide) (hg _ mw_135) (fun _ h9 => h9) rfl d_Ts_isAt_5 ?_
  refine va_aldq hx hb hK hP 1 3 rfl rfl (nb_in rfl) d_Ts_isAt_8 ?_
  refine nb_topv (.ref t0) rfl ?_
  refine lv_aload_n hx hb d_Ts_isAt_9 rfl (lv_at hl 1 rfl) ?_
  refine lv_acmp_ne (rx := some t0) (ry := some kk) (tgt := 17) hx hb d_Ts_isAt_10 rfl (fun _ => ?_) (fun h => absurd (Option.some.inj h) hne)
  refine lv_iconst (v := 0) hx hb d_Ts_isAt_17 (by decide) ?_
  exact W.zret (v := 0) hx hb hr rfl (fun t ht hW => ⟨0, rfl, rfl, ht⟩) (fun q h => by cases h) d_Ts_isAt_18

theorem d_Cm_translate_0 : decode b_Cm_translate 0 = .ok (.aload_n 0, 1) := by decide +kernel
theorem d_Cm_translate_1 : decode b_Cm_translate 1 = .ok (.getfield 21, 3) := by decide +kernel
theorem d_Cm_translate_4 : decode b_Cm_translate 4 = .ok (.invokevirtual 42, 3) := by decide +kernel
theorem d_NP_compile_0 : decode b_NP_compile 0 = .ok (.aload_n 0, 1) := by decide +kernel
theorem d_NP_compile_1 : decode b_NP_compile 1 = .ok (.getfield 13, 3) := by decide +kernel
theorem d_NP_compile_4 : decode b_NP_compile 4 = .ok (.istore_n 1, 1) := by decide +kernel
theorem d_NP_compile_5 : decode b_NP_compile 5 = .ok (.aload_n 0, 1) := by decide +kernel
theorem d_NP_compile_6 : decode b_NP_compile 6 = .ok (.iconst 0, 1) := by decide +kernel
theorem d_NP_compile_7 : decode b_NP_compile 7 = .ok (.putfield 13, 3) := by decide +kernel
theorem d_NP_compile_10 : decode b_NP_compile 10 = .ok (.aload_n 0, 1) := by decide +kernel
theorem d_NP_compile_11 : decode b_NP_compile 11 = .ok (.getfield 20, 3) := by decide +kernel
theorem d_NP_compile_14 : decode b_NP_compile 14 = .ok (.aload_n 0, 1) := by decide +kernel
theorem d_NP_compile_15 : decode b_NP_compile 15 = .ok (.getfield 9, 3) := by decide +kernel
theorem d_NP_compile_18 : decode b_NP_compile 18 = .ok (.iload_n 1, 1) := by decide +kernel
theorem d_NP_compile_19 : decode b_NP_compile 19 = .ok (.invokevirtual 46, 3) := by decide +kernel
theorem d_Ns_clear_0 : decode b_Ns_clear 0 = .ok (.aload_n 0, 1) := by decide +kernel
theorem d_Ns_clear_1 : decode b_Ns_clear 1 = .ok (.iconst 0, 1) := by decide +kernel
theorem d_Ns_clear_2 : decode b_Ns_clear 2 = .ok (.putfield 17, 3) := by decide +kernel
theorem d_Ns_clear_5 : decode b_Ns_clear 5 = .ok (.aload_n 0, 1) := by decide +kernel
theorem d_Ns_clear_6 : decode b_Ns_clear 6 = .ok (.iconst 0, 1) := by decide +kernel
theorem d_Ns_clear_7 : decode b_Ns_clear 7 = .ok (.putfield 25, 3) := by decide +kernel
theorem d_Ns_clear_10 : decode b_Ns_clear 10 = .ok (.return_, 1) := by decide +kernel

set_option maxHeartbeats 4000000 in
set_option maxRecDepth 100000 in
theorem a_Ns_clear_1 (l : Launch) (G : nn_G) (sz : Nat) (a1 a2 a3 : Nat) : Met l y_Ns_clear w_Ns_clear ({ frames := 0, cells := 0, slots := 0, locals := 0 }) (nn_P G [.ref a1] [(a1, .inr (5, [.ref a3, .int 0, .ref a2, .int 0])), (a2, .inl (G.2 0, 5, .inl (fun _ => 0)))] sz) (va_Qv (fun u : Unit => True) (fun u t => va_P G.1 nn_cls [(a1, .inr (5, [.ref a3, .int 0, .ref a2, .int 0])), (a2, .inl (G.2 0, 5, .inl (fun _ => 0)))] t.heap ∧ va_D (va_A [(a1, .inr (5, [.ref a3, .int 0, .ref a2, .int 0])), (a2, .inl (G.2 0, 5, .inl (fun _ => 0)))] sz) [(a1, .inr (5, [.ref a3, .int 0, .ref a2, .int 0])), (a2, .inl (G.2 0, 5, .inl (fun _ => 0)))]) (va_A [(a1, .inr (5, [.ref a3, .int 0, .ref a2, .int 0])), (a2, .inl (G.2 0, 5, .inl (fun _ => 0)))] sz)) 0 0 (va_A [(a1, .inr (5, [.ref a3, .int 0, .ref a2, .int 0])), (a2, .inl (G.2 0, 5, .inl (fun _ => 0)))] sz) := by
  refine Met.ofW (cc := b_Ns_clear) (maxL := 1) (ret := none) (by decide) rfl ?_
  intro p e s m args below meth c s₁ B hml hv
  obtain ⟨rfl, hsz, hP, hK, hD0, hN⟩ := hv
  have hx := B.exec
  have hb := B.bytes
  have hr := B.returns
  have hts := atoms_spec (ws := w_Ns_clear) B.pre
  have hg : ∀ w ∈ nn_gw, w.before _ s = true := fun w h => hts w (List.mem_cons_of_mem _ h)
  have hown : s.vm.findClass R_Ns = some m.cls := findClass_of_methodNamed B.named
  have hlocks := B.notSynchronized
  subst hsz
  have hD := hD0.self (sz := s.heap.size)
  generalize hAe : va_A [(a1, .inr (5, [.ref a3, .int 0, .ref a2, .int 0])), (a2, .inl (G.2 0, 5, .inl (fun _ => 0)))] s.heap.size = A at hD ⊢
  have hA : ∀ q : Nat, s.heap.size ≤ q → A q := fun q h => by rw [← hAe]; exact Or.inr h
  have hS : va_S A s.heap s.heap [] := va_S.rf
  have hP : va_P G.1 nn_cls [(a1, .inr (5, [.ref a3, .int 0, .ref a2, .int 0])), (a2, .inl (G.2 0, 5, .inl (fun _ => 0)))] s.heap := hP
  have hP0 := hP
  have hl := lv_entry ([.ref a1]) (n := 1) (Nat.le_of_ble_eq_true rfl)
  rw [lg_entry_eq]
  generalize (lg_sl ([.ref a1]) ++ List.replicate (1 - (lg_sl ([.ref a1])).length) Slot.unset).toArray = ls at hl ⊢
  have hl : lv_has ls 1 [(0, .ref a1)] := hl
  refine lv_aload_n hx hb d_Ns_clear_0 rfl (lv_at hl 0 rfl) ?_
  refine lv_iconst (v := 0) hx hb d_Ns_clear_1 (by decide) ?_
  refine va_put (D := G.1) (ci := 5) (v := .int 0) (ty := .int) (C := R_Ns) (T := T_Ns) (N := 4) hx hb hg in_Ns t_Ns ok_Ns nm_Ns hown hK hP hD hS 0 rfl rfl 1 (by decide) (hg _ mw_188) (fun _ h9 => h9) rfl (by decide +kernel) rfl rfl (Nat.le_of_ble_eq_true rfl) d_Ns_clear_2 (fun H locs hP hD hS => ?_)
  have hP : va_P G.1 nn_cls [(a1, .inr (5, [.ref a3, .int 0, .ref a2, .int 0])), (a2, .inl (G.2 0, 5, .inl (fun _ => 0)))] H := hP
  have hD : va_D A [(a1, .inr (5, [.ref a3, .int 0, .ref a2, .int 0])), (a2, .inl (G.2 0, 5, .inl (fun _ => 0)))] := hD
  refine lv_aload_n hx hb d_Ns_clear_5 rfl (lv_at hl 0 rfl) ?_
  refine lv_iconst (v := 0) hx hb d_Ns_clear_6 (by decide) ?_
  refine va_put (D := G.1) (ci := 5) (v := .int 0) (ty := .int) (C := R_Ns) (T := T_Ns) (N := 4) hx hb hg in_Ns t_Ns ok_Ns nm_Ns hown hK hP hD hS 0 rfl rfl 3 (by decide) (hg _ mw_190) (fun _ h9 => h9) rfl (by decide +kernel) rfl rfl (Nat.le_of_ble_eq_true rfl) d_Ns_clear_7 (fun H locs hP hD hS => ?_)
  have hP : va_P G.1 nn_cls [(a1, .inr (5, [.ref a3, .int 0, .ref a2, .int 0])), (a2, .inl (G.2 0, 5, .inl (fun _ => 0)))] H := hP
  have hD : va_D A [(a1, .inr (5, [.ref a3, .int 0, .ref a2, .int 0])), (a2, .inl (G.2 0, 5, .inl (fun _ => 0)))] := hD
  refine W.widen (k := 0) (n := 0) (Nat.le_of_ble_eq_true rfl) (Nat.le_of_ble_eq_true rfl) ?_
  have hP9 := hP.sub (ws' := [(a1, .inr (5, [.ref a3, .int 0, .ref a2, .int 0])), (a2, .inl (G.2 0, 5, .inl (fun _ => 0)))]) [0, 1] rfl
  have hD9 := hD.sub (ws' := [(a1, .inr (5, [.ref a3, .int 0, .ref a2, .int 0])), (a2, .inl (G.2 0, 5, .inl (fun _ => 0)))]) [0, 1] (by decide) rfl
  exact W.vret hx hb hr (fun t ht hW => ⟨⟨(), rfl, trivial, ⟨by rw [ht]; exact hP9, hD9⟩⟩, hS.F ht⟩) hS.2.2 d_Ns_clear_10

theorem mw_401 : (.methodLink R_Cm 42 y_Ns_clear : Cond) ∈ nn_gw := nn_at 401 (by decide +kernel) (by decide +kernel)
theorem mw_402 : (.instanceMethod y_Ns_clear : Cond) ∈ nn_gw := nn_at 402 (by decide +kernel) (by decide +kernel)
theorem mw_403 : (.selects R_Ns y_Ns_clear y_Ns_clear : Cond) ∈ nn_gw := nn_at 403 (by decide +kernel) (by decide +kernel)
theorem mw_404 : (.code y_Ns_clear b_Ns_clear 1 none : Cond) ∈ nn_gw := nn_at 404 (by decide +kernel) (by decide +kernel)
theorem d_Cm_translate_7 : decode b_Cm_translate 7 = .ok (.aload_n 0, 1) := by decide +kernel
theorem d_Cm_translate_8 : decode b_Cm_translate 8 = .ok (.getfield 28, 3) := by decide +kernel
theorem d_Cm_translate_11 : decode b_Cm_translate 11 = .ok (.invokevirtual 45, 3) := by decide +kernel
theorem d_Co_clear_0 : decode b_Co_clear 0 = .ok (.aload_n 0, 1) := by decide +kernel
theorem d_Co_clear_1 : decode b_Co_clear 1 = .ok (.iconst 0, 1) := by decide +kernel
theorem d_Co_clear_2 : decode b_Co_clear 2 = .ok (.putfield 21, 3) := by decide +kernel
theorem d_Co_clear_5 : decode b_Co_clear 5 = .ok (.return_, 1) := by decide +kernel

set_option maxHeartbeats 4000000 in
set_option maxRecDepth 100000 in
theorem a_Co_clear_1 (l : Launch) (G : nn_G) (sz : Nat) (a1 a2 a3 a4 : Nat) : Met l y_Co_clear w_Co_clear ({ frames := 0, cells := 0, slots := 0, locals := 0 }) (nn_P G [.ref a1] [(a1, .inr (1, [.ref a2, .ref a3, .ref a4, .int 0])), (a2, .inl (G.2 0, 180, .inl (fun _ => 0))), (a3, .inl (G.2 0, 180, .inl (fun _ => 0))), (a4, .inl (G.2 0, 180, .inl (fun _ => 0)))] sz) (va_Qv (fun u : Unit => True) (fun u t => va_P G.1 nn_cls [(a1, .inr (1, [.ref a2, .ref a3, .ref a4, .int 0])), (a2, .inl (G.2 0, 180, .inl (fun _ => 0))), (a3, .inl (G.2 0, 180, .inl (fun _ => 0))), (a4, .inl (G.2 0, 180, .inl (fun _ => 0)))] t.heap ∧ va_D (va_A [(a1, .inr (1, [.ref a2, .ref a3, .ref a4, .int 0])), (a2, .inl (G.2 0, 180, .inl (fun _ => 0))), (a3, .inl (G.2 0, 180, .inl (fun _ => 0))), (a4, .inl (G.2 0, 180, .inl (fun _ => 0)))] sz) [(a1, .inr (1, [.ref a2, .ref a3, .ref a4, .int 0])), (a2, .inl (G.2 0, 180, .inl (fun _ => 0))), (a3, .inl (G.2 0, 180, .inl (fun _ => 0))), (a4, .inl (G.2 0, 180, .inl (fun _ => 0)))]) (va_A [(a1, .inr (1, [.ref a2, .ref a3, .ref a4, .int 0])), (a2, .inl (G.2 0, 180, .inl (fun _ => 0))), (a3, .inl (G.2 0, 180, .inl (fun _ => 0))), (a4, .inl (G.2 0, 180, .inl (fun _ => 0)))] sz)) 0 0 (va_A [(a1, .inr (1, [.ref a2, .ref a3, .ref a4, .int 0])), (a2, .inl (G.2 0, 180, .inl (fun _ => 0))), (a3, .inl (G.2 0, 180, .inl (fun _ => 0))), (a4, .inl (G.2 0, 180, .inl (fun _ => 0)))] sz) := by
  refine Met.ofW (cc := b_Co_clear) (maxL := 1) (ret := none) (by decide) rfl ?_
  intro p e s m args below meth c s₁ B hml hv
  obtain ⟨rfl, hsz, hP, hK, hD0, hN⟩ := hv
  have hx := B.exec
  have hb := B.bytes
  have hr := B.returns
  have hts := atoms_spec (ws := w_Co_clear) B.pre
  have hg : ∀ w ∈ nn_gw, w.before _ s = true := fun w h => hts w (List.mem_cons_of_mem _ h)
  have hown : s.vm.findClass R_Co = some m.cls := findClass_of_methodNamed B.named
  have hlocks := B.notSynchronized
  subst hsz
  have hD := hD0.self (sz := s.heap.size)
  generalize hAe : va_A [(a1, .inr (1, [.ref a2, .ref a3, .ref a4, .int 0])), (a2, .inl (G.2 0, 180, .inl (fun _ => 0))), (a3, .inl (G.2 0, 180, .inl (fun _ => 0))), (a4, .inl (G.2 0, 180, .inl (fun _ => 0)))] s.heap.size = A at hD ⊢
  have hA : ∀ q : Nat, s.heap.size ≤ q → A q := fun q h => by rw [← hAe]; exact Or.inr h
  have hS : va_S A s.heap s.heap [] := va_S.rf
  have hP : va_P G.1 nn_cls [(a1, .inr (1, [.ref a2, .ref a3, .ref a4, .int 0])), (a2, .inl (G.2 0, 180, .inl (fun _ => 0))), (a3, .inl (G.2 0, 180, .inl (fun _ => 0))), (a4, .inl (G.2 0, 180, .inl (fun _ => 0)))] s.heap := hP
  have hP0 := hP
  have hl := lv_entry ([.ref a1]) (n := 1) (Nat.le_of_ble_eq_true rfl)
  rw [lg_entry_eq]
  generalize (lg_sl ([.ref a1]) ++ List.replicate (1 - (lg_sl ([.ref a1])).length) Slot.unset).toArray = ls at hl ⊢
  have hl : lv_has ls 1 [(0, .ref a1)] := hl
  refine lv_aload_n hx hb d_Co_clear_0 rfl (lv_at hl 0 rfl) ?_
  refine lv_iconst (v := 0) hx hb d_Co_clear_1 (by decide) ?_
  refine va_put (D := G.1) (ci := 1) (v := .int 0) (ty := .int) (C := R_Co) (T := T_Co) (N := 4) hx hb hg in_Co t_Co ok_Co nm_Co hown hK hP hD hS 0 rfl rfl 3 (by decide) (hg _ mw_209) (fun _ h9 => h9) rfl (by decide +kernel) rfl rfl (Nat.le_of_ble_eq_true rfl) d_Co_clear_2 (fun H locs hP hD hS => ?_)
  have hP : va_P G.1 nn_cls [(a1, .inr (1, [.ref a2, .ref a3, .ref a4, .int 0])), (a2, .inl (G.2 0, 180, .inl (fun _ => 0))), (a3, .inl (G.2 0, 180, .inl (fun _ => 0))), (a4, .inl (G.2 0, 180, .inl (fun _ => 0)))] H := hP
  have hD : va_D A [(a1, .inr (1, [.ref a2, .ref a3, .ref a4, .int 0])), (a2, .inl (G.2 0, 180, .inl (fun _ => 0))), (a3, .inl (G.2 0, 180, .inl (fun _ => 0))), (a4, .inl (G.2 0, 180, .inl (fun _ => 0)))] := hD
  refine W.widen (k := 0) (n := 0) (Nat.le_of_ble_eq_true rfl) (Nat.le_of_ble_eq_true rfl) ?_
  have hP9 := hP.sub (ws' := [(a1, .inr (1, [.ref a2, .ref a3, .ref a4, .int 0])), (a2, .inl (G.2 0, 180, .inl (fun _ => 0))), (a3, .inl (G.2 0, 180, .inl (fun _ => 0))), (a4, .inl (G.2 0, 180, .inl (fun _ => 0)))]) [0, 1, 2, 3] rfl
  have hD9 := hD.sub (ws' := [(a1, .inr (1, [.ref a2, .ref a3, .ref a4, .int 0])), (a2, .inl (G.2 0, 180, .inl (fun _ => 0))), (a3, .inl (G.2 0, 180, .inl (fun _ => 0))), (a4, .inl (G.2 0, 180, .inl (fun _ => 0)))]) [0, 1, 2, 3] (by decide) rfl
  exact W.vret hx hb hr (fun t ht hW => ⟨⟨(), rfl, trivial, ⟨by rw [ht]; exact hP9, hD9⟩⟩, hS.F ht⟩) hS.2.2 d_Co_clear_5

theorem mw_405 : (.methodLink R_Cm 45 y_Co_clear : Cond) ∈ nn_gw := nn_at 405 (by decide +kernel) (by decide +kernel)
theorem mw_406 : (.instanceMethod y_Co_clear : Cond) ∈ nn_gw := nn_at 406 (by decide +kernel) (by decide +kernel)
theorem mw_407 : (.selects R_Co y_Co_clear y_Co_clear : Cond) ∈ nn_gw := nn_at 407 (by decide +kernel) (by decide +kernel)
theorem mw_408 : (.code y_Co_clear b_Co_clear 1 none : Cond) ∈ nn_gw := nn_at 408 (by decide +kernel) (by decide +kernel)
theorem mw_500 : (.fieldLink R_Ts 52 R_To "TEXT_END" "LNestPascal$Token;" : Cond) ∈ nn_gw := nn_at 500 (by decide +kernel) (by decide +kernel)
theorem d_Cm_translate_14 : decode b_Cm_translate 14 = .ok (.aload_n 0, 1) := by decide +kernel
theorem d_Cm_translate_15 : decode b_Cm_translate 15 = .ok (.iconst 0, 1) := by decide +kernel
theorem d_Cm_translate_16 : decode b_Cm_translate 16 = .ok (.putfield 32, 3) := by decide +kernel
theorem d_Cm_translate_19 : decode b_Cm_translate 19 = .ok (.aload_n 0, 1) := by decide +kernel
theorem d_Cm_translate_20 : decode b_Cm_translate 20 = .ok (.iconst (-1), 1) := by decide +kernel
theorem d_Cm_translate_21 : decode b_Cm_translate 21 = .ok (.putfield 36, 3) := by decide +kernel
theorem d_Cm_translate_24 : decode b_Cm_translate 24 = .ok (.aload_n 0, 1) := by decide +kernel
theorem d_Cm_translate_25 : decode b_Cm_translate 25 = .ok (.iconst (-1), 1) := by decide +kernel
theorem d_Cm_translate_26 : decode b_Cm_translate 26 = .ok (.putfield 39, 3) := by decide +kernel
theorem d_Cm_translate_29 : decode b_Cm_translate 29 = .ok (.aload_n 0, 1) := by decide +kernel
theorem d_Cm_translate_30 : decode b_Cm_translate 30 = .ok (.getfield 12, 3) := by decide +kernel
theorem d_Cm_translate_33 : decode b_Cm_translate 33 = .ok (.aload_n 1, 1) := by decide +kernel
theorem d_Cm_translate_34 : decode b_Cm_translate 34 = .ok (.iload_n 2, 1) := by decide +kernel
theorem d_Cm_translate_35 : decode b_Cm_translate 35 = .ok (.invokevirtual 46, 3) := by decide +kernel
theorem d_Ts_add_0 : decode b_Ts_add 0 = .ok (.aload_n 0, 1) := by decide +kernel
theorem d_Ts_add_1 : decode b_Ts_add 1 = .ok (.getfield 24, 3) := by decide +kernel
theorem d_Ts_add_4 : decode b_Ts_add 4 = .ok (.sipush 181, 3) := by decide +kernel
theorem d_Ts_add_7 : decode b_Ts_add 7 = .ok (.if_icmp .ge 43, 3) := by decide +kernel
theorem d_Ts_add_10 : decode b_Ts_add 10 = .ok (.aload_n 0, 1) := by decide +kernel
theorem d_Ts_add_11 : decode b_Ts_add 11 = .ok (.getfield 13, 3) := by decide +kernel
theorem d_Ts_add_14 : decode b_Ts_add 14 = .ok (.aload_n 0, 1) := by decide +kernel
theorem d_Ts_add_15 : decode b_Ts_add 15 = .ok (.getfield 24, 3) := by decide +kernel
theorem d_Ts_add_18 : decode b_Ts_add 18 = .ok (.aload_n 1, 1) := by decide +kernel
theorem d_Ts_add_19 : decode b_Ts_add 19 = .ok (.aastore, 1) := by decide +kernel
theorem d_Ts_add_20 : decode b_Ts_add 20 = .ok (.aload_n 0, 1) := by decide +kernel
theorem d_Ts_add_21 : decode b_Ts_add 21 = .ok (.getfield 17, 3) := by decide +kernel
theorem d_Ts_add_24 : decode b_Ts_add 24 = .ok (.aload_n 0, 1) := by decide +kernel
theorem d_Ts_add_25 : decode b_Ts_add 25 = .ok (.getfield 24, 3) := by decide +kernel
theorem d_Ts_add_28 : decode b_Ts_add 28 = .ok (.iload_n 2, 1) := by decide +kernel
theorem d_Ts_add_29 : decode b_Ts_add 29 = .ok (.iastore, 1) := by decide +kernel
theorem d_Ts_add_30 : decode b_Ts_add 30 = .ok (.aload_n 0, 1) := by decide +kernel
theorem d_Ts_add_31 : decode b_Ts_add 31 = .ok (.getfield 21, 3) := by decide +kernel
theorem d_Ts_add_34 : decode b_Ts_add 34 = .ok (.aload_n 0, 1) := by decide +kernel
theorem d_Ts_add_35 : decode b_Ts_add 35 = .ok (.getfield 24, 3) := by decide +kernel
theorem d_Ts_add_38 : decode b_Ts_add 38 = .ok (.iload_n 3, 1) := by decide +kernel
theorem d_Ts_add_39 : decode b_Ts_add 39 = .ok (.iastore, 1) := by decide +kernel
theorem d_Ts_add_40 : decode b_Ts_add 40 = .ok (.aload_n 0, 1) := by decide +kernel
theorem d_Ts_add_41 : decode b_Ts_add 41 = .ok (.dup, 1) := by decide +kernel
theorem d_Ts_add_42 : decode b_Ts_add 42 = .ok (.getfield 24, 3) := by decide +kernel
theorem d_Ts_add_45 : decode b_Ts_add 45 = .ok (.iconst 1, 1) := by decide +kernel
theorem d_Ts_add_46 : decode b_Ts_add 46 = .ok (.iadd, 1) := by decide +kernel
theorem d_Ts_add_47 : decode b_Ts_add 47 = .ok (.putfield 24, 3) := by decide +kernel
theorem d_Ts_add_50 : decode b_Ts_add 50 = .ok (.return_, 1) := by decide +kernel
theorem d_Ts_cut_0 : decode b_Ts_cut 0 = .ok (.aload_n 0, 1) := by decide +kernel
theorem d_Ts_cut_1 : decode b_Ts_cut 1 = .ok (.iconst 0, 1) := by decide +kernel
theorem d_Ts_cut_2 : decode b_Ts_cut 2 = .ok (.putfield 24, 3) := by decide +kernel
theorem d_Ts_cut_5 : decode b_Ts_cut 5 = .ok (.aload_n 0, 1) := by decide +kernel
theorem d_Ts_cut_6 : decode b_Ts_cut 6 = .ok (.iconst 0, 1) := by decide +kernel
theorem d_Ts_cut_7 : decode b_Ts_cut 7 = .ok (.putfield 28, 3) := by decide +kernel
theorem d_Ts_cut_10 : decode b_Ts_cut 10 = .ok (.iconst 0, 1) := by decide +kernel
theorem d_Ts_cut_11 : decode b_Ts_cut 11 = .ok (.istore_n 3, 1) := by decide +kernel
theorem d_Ts_cut_12 : decode b_Ts_cut 12 = .ok (.iload_n 3, 1) := by decide +kernel
theorem d_Ts_cut_13 : decode b_Ts_cut 13 = .ok (.iload_n 2, 1) := by decide +kernel
theorem d_Ts_cut_14 : decode b_Ts_cut 14 = .ok (.if_icmp .ge 50, 3) := by decide +kernel
theorem d_Ts_cut_64 : decode b_Ts_cut 64 = .ok (.aload_n 0, 1) := by decide +kernel
theorem d_Ts_cut_65 : decode b_Ts_cut 65 = .ok (.getstatic 52, 3) := by decide +kernel
theorem d_Ts_cut_68 : decode b_Ts_cut 68 = .ok (.iload_n 2, 1) := by decide +kernel
theorem d_Ts_cut_69 : decode b_Ts_cut 69 = .ok (.iconst 0, 1) := by decide +kernel
theorem d_Ts_cut_70 : decode b_Ts_cut 70 = .ok (.invokevirtual 42, 3) := by decide +kernel

set_option maxHeartbeats 4000000 in
set_option maxRecDepth 100000 in
theorem a_Ts_add_1 (l : Launch) (G : nn_G) (tk : Nat → Nat) (sz : Nat) (a1 a2 a3 a4 : Nat) : Met l y_Ts_add w_Ts_add ({ frames := 0, cells := 0, slots := 0, locals := 0 }) (ns_P G tk [.ref a1, .ref (tk 0), .int 0, .int 0] [(a1, .inr (6, [.ref a2, .ref a3, .ref a4, .int 0, .int 0])), (a2, .inl (G.2 3, 181, .inr (.inr (.inr (.inr (fun _ => none)))))), (a3, .inl (G.2 0, 181, .inl (fun _ => 0))), (a4, .inl (G.2 0, 181, .inl (fun _ => 0)))] sz) (va_Qv (fun u : Unit => True) (fun u t => va_P G.1 nn_cls [(a1, .inr (6, [.ref a2, .ref a3, .ref a4, .int 1, .int 0])), (a2, .inl (G.2 3, 181, .inr (.inr (.inr (.inr (va_up (fun _ => none) (0 : Int32).toNatClampNeg (some (tk 0)))))))), (a3, .inl (G.2 0, 181, .inl (upd (fun _ => 0) (0 : Int32).toNatClampNeg 0))), (a4, .inl (G.2 0, 181, .inl (upd (fun _ => 0) (0 : Int32).toNatClampNeg 0)))] t.heap ∧ va_D (va_A [(a1, .inr (6, [.ref a2, .ref a3, .ref a4, .int 0, .int 0])), (a2, .inl (G.2 3, 181, .inr (.inr (.inr (.inr (fun _ => none)))))), (a3, .inl (G.2 0, 181, .inl (fun _ => 0))), (a4, .inl (G.2 0, 181, .inl (fun _ => 0)))] sz) [(a1, .inr (6, [.ref a2, .ref a3, .ref a4, .int 1, .int 0])), (a2, .inl (G.2 3, 181, .inr (.inr (.inr (.inr (va_up (fun _ => none) (0 : Int32).toNatClampNeg (some (tk 0)))))))), (a3, .inl (G.2 0, 181, .inl (upd (fun _ => 0) (0 : Int32).toNatClampNeg 0))), (a4, .inl (G.2 0, 181, .inl (upd (fun _ => 0) (0 : Int32).toNatClampNeg 0)))]) (va_A [(a1, .inr (6, [.ref a2, .ref a3, .ref a4, .int 0, .int 0])), (a2, .inl (G.2 3, 181, .inr (.inr (.inr (.inr (fun _ => none)))))), (a3, .inl (G.2 0, 181, .inl (fun _ => 0))), (a4, .inl (G.2 0, 181, .inl (fun _ => 0)))] sz)) 0 0 (va_A [(a1, .inr (6, [.ref a2, .ref a3, .ref a4, .int 0, .int 0])), (a2, .inl (G.2 3, 181, .inr (.inr (.inr (.inr (fun _ => none)))))), (a3, .inl (G.2 0, 181, .inl (fun _ => 0))), (a4, .inl (G.2 0, 181, .inl (fun _ => 0)))] sz) := by
  refine Met.ofW (cc := b_Ts_add) (maxL := 4) (ret := none) (by decide) rfl ?_
  intro p e s m args below meth c s₁ B hml hv
  obtain ⟨rfl, ⟨hsz, hP, hK, hD0, hN⟩, hE⟩ := hv
  have hx := B.exec
  have hb := B.bytes
  have hr := B.returns
  have hts := atoms_spec (ws := w_Ts_add) B.pre
  have hg : ∀ w ∈ nn_gw, w.before _ s = true := fun w h => hts w (List.mem_cons_of_mem _ h)
  have hown : s.vm.findClass R_Ts = some m.cls := findClass_of_methodNamed B.named
  have hlocks := B.notSynchronized
  subst hsz
  have hD := hD0.self (sz := s.heap.size)
  generalize hAe : va_A [(a1, .inr (6, [.ref a2, .ref a3, .ref a4, .int 0, .int 0])), (a2, .inl (G.2 3, 181, .inr (.inr (.inr (.inr (fun _ => none)))))), (a3, .inl (G.2 0, 181, .inl (fun _ => 0))), (a4, .inl (G.2 0, 181, .inl (fun _ => 0)))] s.heap.size = A at hD hE ⊢
  have hA : ∀ q : Nat, s.heap.size ≤ q → A q := fun q h => by rw [← hAe]; exact Or.inr h
  have hS : va_S A s.heap s.heap [] := va_S.rf
  have hP : va_P G.1 nn_cls [(a1, .inr (6, [.ref a2, .ref a3, .ref a4, .int 0, .int 0])), (a2, .inl (G.2 3, 181, .inr (.inr (.inr (.inr (fun _ => none)))))), (a3, .inl (G.2 0, 181, .inl (fun _ => 0))), (a4, .inl (G.2 0, 181, .inl (fun _ => 0)))] s.heap := hP
  have hP0 := hP
  have hl := lv_entry ([.ref a1, .ref (tk 0), .int 0, .int 0]) (n := 4) (Nat.le_of_ble_eq_true rfl)
  rw [lg_entry_eq]
  generalize (lg_sl ([.ref a1, .ref (tk 0), .int 0, .int 0]) ++ List.replicate (4 - (lg_sl ([.ref a1, .ref (tk 0), .int 0, .int 0])).length) Slot.unset).toArray = ls at hl ⊢
  have hl : lv_has ls 4 [(0, .ref a1), (1, .ref (tk 0)), (2, .int 0), (3, .int 0)] := hl
  refine lv_aload_n hx hb d_Ts_add_0 rfl (lv_at hl 0 rfl) ?_
  refine va_get (D := G.1) (ci := 6) (v := .int 0) (C := R_Ts) (T := T_Ts) (N := 5) hx hb hg in_Ts hown hK hP 0 rfl rfl 3 (by decide) (hg _ mw_134) (fun _ h9 => h9) rfl d_Ts_add_1 ?_
  refine lv_sipush (v := 181) hx hb d_Ts_add_4 (by decide) ?_
  refine lv_icmp_ge (tgt := 50) hx hb d_Ts_add_7 rfl (fun h => absurd h (by decide)) (fun _ => ?_)
  refine lv_aload_n hx hb d_Ts_add_10 rfl (lv_at hl 0 rfl) ?_
  refine va_get (D := G.1) (ci := 6) (v := .ref a2) (C := R_Ts) (T := T_Ts) (N := 5) hx hb hg in_Ts hown hK hP 0 rfl rfl 0 (by decide) (hg _ mw_131) (fun _ h9 => h9) rfl d_Ts_add_11 ?_
  refine lv_aload_n hx hb d_Ts_add_14 rfl (lv_at hl 0 rfl) ?_
  refine va_get (D := G.1) (ci := 6) (v := .int 0) (C := R_Ts) (T := T_Ts) (N := 5) hx hb hg in_Ts hown hK hP 0 rfl rfl 3 (by decide) (hg _ mw_134) (fun _ h9 => h9) rfl d_Ts_add_15 ?_
  refine lv_aload_n hx hb d_Ts_add_18 rfl (lv_at hl 1 rfl) ?_
  refine va_astqM (E := "NestPascal$Token") hx hb hK hP hD hS 1 3 rfl rfl (ns_any hE hS) (nb_in rfl) d_Ts_add_19 (fun H locs hP hD hS => ?_)
  have hP : va_P G.1 nn_cls [(a1, .inr (6, [.ref a2, .ref a3, .ref a4, .int 0, .int 0])), (a2, .inl (G.2 3, 181, .inr (.inr (.inr (.inr (va_up (fun _ => none) (0 : Int32).toNatClampNeg (some (tk 0)))))))), (a3, .inl (G.2 0, 181, .inl (fun _ => 0))), (a4, .inl (G.2 0, 181, .inl (fun _ => 0)))] H := hP
  have hD : va_D A [(a1, .inr (6, [.ref a2, .ref a3, .ref a4, .int 0, .int 0])), (a2, .inl (G.2 3, 181, .inr (.inr (.inr (.inr (va_up (fun _ => none) (0 : Int32).toNatClampNeg (some (tk 0)))))))), (a3, .inl (G.2 0, 181, .inl (fun _ => 0))), (a4, .inl (G.2 0, 181, .inl (fun _ => 0)))] := hD
  refine lv_aload_n hx hb d_Ts_add_20 rfl (lv_at hl 0 rfl) ?_
  refine va_get (D := G.1) (ci := 6) (v := .ref a3) (C := R_Ts) (T := T_Ts) (N := 5) hx hb hg in_Ts hown hK hP 0 rfl rfl 1 (by decide) (hg _ mw_132) (fun _ h9 => h9) rfl d_Ts_add_21 ?_
  refine lv_aload_n hx hb d_Ts_add_24 rfl (lv_at hl 0 rfl) ?_
  refine va_get (D := G.1) (ci := 6) (v := .int 0) (C := R_Ts) (T := T_Ts) (N := 5) hx hb hg in_Ts hown hK hP 0 rfl rfl 3 (by decide) (hg _ mw_134) (fun _ h9 => h9) rfl d_Ts_add_25 ?_
  refine lv_iload_n hx hb d_Ts_add_28 rfl (lv_at hl 2 rfl) ?_
  refine va_iast hx hb hK hP hD hS 2 0 rfl rfl (nb_in rfl) d_Ts_add_29 (fun H locs hP hD hS => ?_)
  have hP : va_P G.1 nn_cls [(a1, .inr (6, [.ref a2, .ref a3, .ref a4, .int 0, .int 0])), (a2, .inl (G.2 3, 181, .inr (.inr (.inr (.inr (va_up (fun _ => none) (0 : Int32).toNatClampNeg (some (tk 0)))))))), (a3, .inl (G.2 0, 181, .inl (upd (fun _ => 0) (0 : Int32).toNatClampNeg 0))), (a4, .inl (G.2 0, 181, .inl (fun _ => 0)))] H := hP
  have hD : va_D A [(a1, .inr (6, [.ref a2, .ref a3, .ref a4, .int 0, .int 0])), (a2, .inl (G.2 3, 181, .inr (.inr (.inr (.inr (va_up (fun _ => none) (0 : Int32).toNatClampNeg (some (tk 0)))))))), (a3, .inl (G.2 0, 181, .inl (upd (fun _ => 0) (0 : Int32).toNatClampNeg 0))), (a4, .inl (G.2 0, 181, .inl (fun _ => 0)))] := hD
  refine lv_aload_n hx hb d_Ts_add_30 rfl (lv_at hl 0 rfl) ?_
  refine va_get (D := G.1) (ci := 6) (v := .ref a4) (C := R_Ts) (T := T_Ts) (N := 5) hx hb hg in_Ts hown hK hP 0 rfl rfl 2 (by decide) (hg _ mw_133) (fun _ h9 => h9) rfl d_Ts_add_31 ?_
  refine lv_aload_n hx hb d_Ts_add_34 rfl (lv_at hl 0 rfl) ?_
  refine va_get (D := G.1) (ci := 6) (v := .int 0) (C := R_Ts) (T := T_Ts) (N := 5) hx hb hg in_Ts hown hK hP 0 rfl rfl 3 (by decide) (hg _ mw_134) (fun _ h9 => h9) rfl d_Ts_add_35 ?_
  refine lv_iload_n hx hb d_Ts_add_38 rfl (lv_at hl 3 rfl) ?_
  refine va_iast hx hb hK hP hD hS 3 0 rfl rfl (nb_in rfl) d_Ts_add_39 (fun H locs hP hD hS => ?_)
  have hP : va_P G.1 nn_cls [(a1, .inr (6, [.ref a2, .ref a3, .ref a4, .int 0, .int 0])), (a2, .inl (G.2 3, 181, .inr (.inr (.inr (.inr (va_up (fun _ => none) (0 : Int32).toNatClampNeg (some (tk 0)))))))), (a3, .inl (G.2 0, 181, .inl (upd (fun _ => 0) (0 : Int32).toNatClampNeg 0))), (a4, .inl (G.2 0, 181, .inl (upd (fun _ => 0) (0 : Int32).toNatClampNeg 0)))] H := hP
  have hD : va_D A [(a1, .inr (6, [.ref a2, .ref a3, .ref a4, .int 0, .int 0])), (a2, .inl (G.2 3, 181, .inr (.inr (.inr (.inr (va_up (fun _ => none) (0 : Int32).toNatClampNeg (some (tk 0)))))))), (a3, .inl (G.2 0, 181, .inl (upd (fun _ => 0) (0 : Int32).toNatClampNeg 0))), (a4, .inl (G.2 0, 181, .inl (upd (fun _ => 0) (0 : Int32).toNatClampNeg 0)))] := hD
  refine lv_aload_n hx hb d_Ts_add_40 rfl (lv_at hl 0 rfl) ?_
  refine lv_dup hx hb d_Ts_add_41 rfl ?_
  refine va_get (D := G.1) (ci := 6) (v := .int 0) (C := R_Ts) (T := T_Ts) (N := 5) hx hb hg in_Ts hown hK hP 0 rfl rfl 3 (by decide) (hg _ mw_134) (fun _ h9 => h9) rfl d_Ts_add_42 ?_
  refine lv_iconst (v := 1) hx hb d_Ts_add_45 (by decide) ?_
  refine lv_iadd hx hb d_Ts_add_46 ?_
  refine nb_top 1 (by decide) ?_
  refine va_put (D := G.1) (ci := 6) (v := .int 1) (ty := .int) (C := R_Ts) (T := T_Ts) (N := 5) hx hb hg in_Ts t_Ts ok_Ts nm_Ts hown hK hP hD hS 0 rfl rfl 3 (by decide) (hg _ mw_134) (fun _ h9 => h9) rfl (by decide +kernel) rfl rfl (Nat.le_of_ble_eq_true rfl) d_Ts_add_47 (fun H locs hP hD hS => ?_)
  have hP : va_P G.1 nn_cls [(a1, .inr (6, [.ref a2, .ref a3, .ref a4, .int 1, .int 0])), (a2, .inl (G.2 3, 181, .inr (.inr (.inr (.inr (va_up (fun _ => none) (0 : Int32).toNatClampNeg (some (tk 0)))))))), (a3, .inl (G.2 0, 181, .inl (upd (fun _ => 0) (0 : Int32).toNatClampNeg 0))), (a4, .inl (G.2 0, 181, .inl (upd (fun _ => 0) (0 : Int32).toNatClampNeg 0)))] H := hP
  have hD : va_D A [(a1, .inr (6, [.ref a2, .ref a3, .ref a4, .int 1, .int 0])), (a2, .inl (G.2 3, 181, .inr (.inr (.inr (.inr (va_up (fun _ => none) (0 : Int32).toNatClampNeg (some (tk 0)))))))), (a3, .inl (G.2 0, 181, .inl (upd (fun _ => 0) (0 : Int32).toNatClampNeg 0))), (a4, .inl (G.2 0, 181, .inl (upd (fun _ => 0) (0 : Int32).toNatClampNeg 0)))] := hD
  refine W.widen (k := 0) (n := 0) (Nat.le_of_ble_eq_true rfl) (Nat.le_of_ble_eq_true rfl) ?_
  have hP9 := hP.sub (ws' := [(a1, .inr (6, [.ref a2, .ref a3, .ref a4, .int 1, .int 0])), (a2, .inl (G.2 3, 181, .inr (.inr (.inr (.inr (va_up (fun _ => none) (0 : Int32).toNatClampNeg (some (tk 0)))))))), (a3, .inl (G.2 0, 181, .inl (upd (fun _ => 0) (0 : Int32).toNatClampNeg 0))), (a4, .inl (G.2 0, 181, .inl (upd (fun _ => 0) (0 : Int32).toNatClampNeg 0)))]) [0, 1, 2, 3] rfl
  have hD9 := hD.sub (ws' := [(a1, .inr (6, [.ref a2, .ref a3, .ref a4, .int 1, .int 0])), (a2, .inl (G.2 3, 181, .inr (.inr (.inr (.inr (va_up (fun _ => none) (0 : Int32).toNatClampNeg (some (tk 0)))))))), (a3, .inl (G.2 0, 181, .inl (upd (fun _ => 0) (0 : Int32).toNatClampNeg 0))), (a4, .inl (G.2 0, 181, .inl (upd (fun _ => 0) (0 : Int32).toNatClampNeg 0)))]) [0, 1, 2, 3] (by decide) rfl
  exact W.vret hx hb hr (fun t ht hW => ⟨⟨(), rfl, trivial, ⟨by rw [ht]; exact hP9, hD9⟩⟩, hS.F ht⟩) hS.2.2 d_Ts_add_50

theorem mw_5 : (.selects R_Ts y_Ts_add y_Ts_add : Cond) ∈ nn_gw := nn_at 5 (by decide +kernel) (by decide +kernel)
theorem mw_493 : (.methodLink R_Ts 42 y_Ts_add : Cond) ∈ nn_gw := nn_at 493 (by decide +kernel) (by decide +kernel)
theorem mw_495 : (.instanceMethod y_Ts_add : Cond) ∈ nn_gw := nn_at 495 (by decide +kernel) (by decide +kernel)
theorem mw_496 : (.code y_Ts_add b_Ts_add 4 none : Cond) ∈ nn_gw := nn_at 496 (by decide +kernel) (by decide +kernel)
theorem d_Ts_cut_73 : decode b_Ts_cut 73 = .ok (.return_, 1) := by decide +kernel

set_option maxHeartbeats 4000000 in
set_option maxRecDepth 100000 in
theorem a_Ts_cut_1 (l : Launch) (G : nn_G) (tk : Nat → Nat) (sz : Nat) (a1 a2 a3 a4 a5 : Nat) : Met l y_Ts_cut w_Ts_cut ({ frames := 1, cells := 0, slots := 0, locals := 23 }) (ns_P G tk [.ref a1, .ref a2, .int 0] [(a1, .inr (6, [.ref a3, .ref a4, .ref a5, .int 0, .int 0])), (a2, .inl (G.2 1, 180, .inl (fun _ => 0))), (a3, .inl (G.2 3, 181, .inr (.inr (.inr (.inr (fun _ => none)))))), (a4, .inl (G.2 0, 181, .inl (fun _ => 0))), (a5, .inl (G.2 0, 181, .inl (fun _ => 0)))] sz) (va_Qv (fun u : Unit => True) (fun u t => va_P G.1 nn_cls [(a1, .inr (6, [.ref a3, .ref a4, .ref a5, .int 1, .int 0])), (a2, .inl (G.2 1, 180, .inl (fun _ => 0))), (a3, .inl (G.2 3, 181, .inr (.inr (.inr (.inr (va_up (fun _ => none) (0 : Int32).toNatClampNeg (some (tk 0)))))))), (a4, .inl (G.2 0, 181, .inl (upd (fun _ => 0) (0 : Int32).toNatClampNeg 0))), (a5, .inl (G.2 0, 181, .inl (upd (fun _ => 0) (0 : Int32).toNatClampNeg 0)))] t.heap ∧ va_D (va_A [(a1, .inr (6, [.ref a3, .ref a4, .ref a5, .int 0, .int 0])), (a2, .inl (G.2 1, 180, .inl (fun _ => 0))), (a3, .inl (G.2 3, 181, .inr (.inr (.inr (.inr (fun _ => none)))))), (a4, .inl (G.2 0, 181, .inl (fun _ => 0))), (a5, .inl (G.2 0, 181, .inl (fun _ => 0)))] sz) [(a1, .inr (6, [.ref a3, .ref a4, .ref a5, .int 1, .int 0])), (a2, .inl (G.2 1, 180, .inl (fun _ => 0))), (a3, .inl (G.2 3, 181, .inr (.inr (.inr (.inr (va_up (fun _ => none) (0 : Int32).toNatClampNeg (some (tk 0)))))))), (a4, .inl (G.2 0, 181, .inl (upd (fun _ => 0) (0 : Int32).toNatClampNeg 0))), (a5, .inl (G.2 0, 181, .inl (upd (fun _ => 0) (0 : Int32).toNatClampNeg 0)))]) (va_A [(a1, .inr (6, [.ref a3, .ref a4, .ref a5, .int 0, .int 0])), (a2, .inl (G.2 1, 180, .inl (fun _ => 0))), (a3, .inl (G.2 3, 181, .inr (.inr (.inr (.inr (fun _ => none)))))), (a4, .inl (G.2 0, 181, .inl (fun _ => 0))), (a5, .inl (G.2 0, 181, .inl (fun _ => 0)))] sz)) 0 0 (va_A [(a1, .inr (6, [.ref a3, .ref a4, .ref a5, .int 0, .int 0])), (a2, .inl (G.2 1, 180, .inl (fun _ => 0))), (a3, .inl (G.2 3, 181, .inr (.inr (.inr (.inr (fun _ => none)))))), (a4, .inl (G.2 0, 181, .inl (fun _ => 0))), (a5, .inl (G.2 0, 181, .inl (fun _ => 0)))] sz) := by
  refine Met.ofW (cc := b_Ts_cut) (maxL := 5) (ret := none) (by decide) rfl ?_
  intro p e s m args below meth c s₁ B hml hv
  obtain ⟨rfl, ⟨hsz, hP, hK, hD0, hN⟩, hE⟩ := hv
  have hx := B.exec
  have hb := B.bytes
  have hr := B.returns
  have hts := atoms_spec (ws := w_Ts_cut) B.pre
  have hg : ∀ w ∈ nn_gw, w.before _ s = true := fun w h => hts w (List.mem_cons_of_mem _ h)
  have hown : s.vm.findClass R_Ts = some m.cls := findClass_of_methodNamed B.named
  have hlocks := B.notSynchronized
  subst hsz
  have hD := hD0.self (sz := s.heap.size)
  generalize hAe : va_A [(a1, .inr (6, [.ref a3, .ref a4, .ref a5, .int 0, .int 0])), (a2, .inl (G.2 1, 180, .inl (fun _ => 0))), (a3, .inl (G.2 3, 181, .inr (.inr (.inr (.inr (fun _ => none)))))), (a4, .inl (G.2 0, 181, .inl (fun _ => 0))), (a5, .inl (G.2 0, 181, .inl (fun _ => 0)))] s.heap.size = A at hD hE ⊢
  have hA : ∀ q : Nat, s.heap.size ≤ q → A q := fun q h => by rw [← hAe]; exact Or.inr h
  have hS : va_S A s.heap s.heap [] := va_S.rf
  have hP : va_P G.1 nn_cls [(a1, .inr (6, [.ref a3, .ref a4, .ref a5, .int 0, .int 0])), (a2, .inl (G.2 1, 180, .inl (fun _ => 0))), (a3, .inl (G.2 3, 181, .inr (.inr (.inr (.inr (fun _ => none)))))), (a4, .inl (G.2 0, 181, .inl (fun _ => 0))), (a5, .inl (G.2 0, 181, .inl (fun _ => 0)))] s.heap := hP
  have hP0 := hP
  have hl := lv_entry ([.ref a1, .ref a2, .int 0]) (n := 5) (Nat.le_of_ble_eq_true rfl)
  rw [lg_entry_eq]
  generalize (lg_sl ([.ref a1, .ref a2, .int 0]) ++ List.replicate (5 - (lg_sl ([.ref a1, .ref a2, .int 0])).length) Slot.unset).toArray = ls at hl ⊢
  have hl : lv_has ls 5 [(0, .ref a1), (1, .ref a2), (2, .int 0)] := hl
  refine lv_aload_n hx hb d_Ts_cut_0 rfl (lv_at hl 0 rfl) ?_
  refine lv_iconst (v := 0) hx hb d_Ts_cut_1 (by decide) ?_
  refine va_put (D := G.1) (ci := 6) (v := .int 0) (ty := .int) (C := R_Ts) (T := T_Ts) (N := 5) hx hb hg in_Ts t_Ts ok_Ts nm_Ts hown hK hP hD hS 0 rfl rfl 3 (by decide) (hg _ mw_134) (fun _ h9 => h9) rfl (by decide +kernel) rfl rfl (Nat.le_of_ble_eq_true rfl) d_Ts_cut_2 (fun H locs hP hD hS => ?_)
  have hP : va_P G.1 nn_cls [(a1, .inr (6, [.ref a3, .ref a4, .ref a5, .int 0, .int 0])), (a2, .inl (G.2 1, 180, .inl (fun _ => 0))), (a3, .inl (G.2 3, 181, .inr (.inr (.inr (.inr (fun _ => none)))))), (a4, .inl (G.2 0, 181, .inl (fun _ => 0))), (a5, .inl (G.2 0, 181, .inl (fun _ => 0)))] H := hP
  have hD : va_D A [(a1, .inr (6, [.ref a3, .ref a4, .ref a5, .int 0, .int 0])), (a2, .inl (G.2 1, 180, .inl (fun _ => 0))), (a3, .inl (G.2 3, 181, .inr (.inr (.inr (.inr (fun _ => none)))))), (a4, .inl (G.2 0, 181, .inl (fun _ => 0))), (a5, .inl (G.2 0, 181, .inl (fun _ => 0)))] := hD
  refine lv_aload_n hx hb d_Ts_cut_5 rfl (lv_at hl 0 rfl) ?_
  refine lv_iconst (v := 0) hx hb d_Ts_cut_6 (by decide) ?_
  refine va_put (D := G.1) (ci := 6) (v := .int 0) (ty := .int) (C := R_Ts) (T := T_Ts) (N := 5) hx hb hg in_Ts t_Ts ok_Ts nm_Ts hown hK hP hD hS 0 rfl rfl 4 (by decide) (hg _ mw_135) (fun _ h9 => h9) rfl (by decide +kernel) rfl rfl (Nat.le_of_ble_eq_true rfl) d_Ts_cut_7 (fun H locs hP hD hS => ?_)
  have hP : va_P G.1 nn_cls [(a1, .inr (6, [.ref a3, .ref a4, .ref a5, .int 0, .int 0])), (a2, .inl (G.2 1, 180, .inl (fun _ => 0))), (a3, .inl (G.2 3, 181, .inr (.inr (.inr (.inr (fun _ => none)))))), (a4, .inl (G.2 0, 181, .inl (fun _ => 0))), (a5, .inl (G.2 0, 181, .inl (fun _ => 0)))] H := hP
  have hD : va_D A [(a1, .inr (6, [.ref a3, .ref a4, .ref a5, .int 0, .int 0])), (a2, .inl (G.2 1, 180, .inl (fun _ => 0))), (a3, .inl (G.2 3, 181, .inr (.inr (.inr (.inr (fun _ => none)))))), (a4, .inl (G.2 0, 181, .inl (fun _ => 0))), (a5, .inl (G.2 0, 181, .inl (fun _ => 0)))] := hD
  refine lv_iconst (v := 0) hx hb d_Ts_cut_10 (by decide) ?_
  refine lv_istore_n (lv' := [(3, .int 0), (0, .ref a1), (1, .ref a2), (2, .int 0)]) hx hb d_Ts_cut_11 rfl hl (by decide) rfl (fun ls hl => ?_)
  refine lv_iload_n hx hb d_Ts_cut_12 rfl (lv_at hl 0 rfl) ?_
  refine lv_iload_n hx hb d_Ts_cut_13 rfl (lv_at hl 3 rfl) ?_
  refine lv_icmp_ge (tgt := 64) hx hb d_Ts_cut_14 rfl (fun _ => ?_) (fun h => absurd (by decide) h)
  refine lv_aload_n hx hb d_Ts_cut_64 rfl (lv_at hl 1 rfl) ?_
  refine va_gets hx hb hE.1 hS hown (hg _ mw_500) (fun _ h9 => h9) d_Ts_cut_65 ?_
  refine lv_iload_n hx hb d_Ts_cut_68 rfl (lv_at hl 3 rfl) ?_
  refine lv_iconst (v := 0) hx hb d_Ts_cut_69 (by decide) ?_
  have hPc := hP.sub (ws' := [(a1, .inr (6, [.ref a3, .ref a4, .ref a5, .int 0, .int 0])), (a3, .inl (G.2 3, 181, .inr (.inr (.inr (.inr (fun _ => none)))))), (a4, .inl (G.2 0, 181, .inl (fun _ => 0))), (a5, .inl (G.2 0, 181, .inl (fun _ => 0)))]) [0, 2, 3, 4] rfl
  have hDc := hD.sub (ws' := [(a1, .inr (6, [.ref a3, .ref a4, .ref a5, .int 0, .int 0])), (a3, .inl (G.2 3, 181, .inr (.inr (.inr (.inr (fun _ => none)))))), (a4, .inl (G.2 0, 181, .inl (fun _ => 0))), (a5, .inl (G.2 0, 181, .inl (fun _ => 0)))]) [0, 2, 3, 4] (by decide) rfl
  have hFc := va_free (wc := [(a1, .inr (6, [.ref a3, .ref a4, .ref a5, .int 0, .int 0])), (a3, .inl (G.2 3, 181, .inr (.inr (.inr (.inr (fun _ => none)))))), (a4, .inl (G.2 0, 181, .inl (fun _ => 0))), (a5, .inl (G.2 0, 181, .inl (fun _ => 0)))]) hD hS hA [0, 2, 3, 4] rfl
  have hFc := va_free (wc := [(a1, .inr (6, [.ref a3, .ref a4, .ref a5, .int 0, .int 0])), (a3, .inl (G.2 3, 181, .inr (.inr (.inr (.inr (fun _ => none)))))), (a4, .inl (G.2 0, 181, .inl (fun _ => 0))), (a5, .inl (G.2 0, 181, .inl (fun _ => 0)))]) hD hS hA [0, 2, 3, 4] rfl
  refine va_callv (va_runV (As := [.ref (tk 0), .int 0, .int 0]) (rest := []) ⟨hx, hb, hml, hown, hts⟩ (a_Ts_add_1 l G tk _ a1 a3 a4 a5) (cwV 3 hts (nn_gV mw_496 mw_493 mw_495 mw_5 mw_89) rfl rfl rfl (by decide +kernel) ⟨Nat.le_of_ble_eq_true rfl, Nat.le_of_ble_eq_true rfl⟩) (ns_preV (va_recv hK hP rfl (q0 := 0) rfl) hPc hDc hK hN hE hS hFc) rfl rfl hl.1 rfl (lv_room (Nat.le_of_ble_eq_true rfl)) d_Ts_cut_70 ⟨(Nat.le_of_ble_eq_true rfl), (Nat.le_of_ble_eq_true rfl)⟩) hS (fun q _ h => hFc q h) hFc (fun u1 t H locs ht hvm hw hB hz1 hk1 hS => ?_)
  obtain ⟨hP1, hD1⟩ := hB
  rw [ht] at hP1
  obtain ⟨hP, hD⟩ := va_join (wr := [(a2, .inl (G.2 1, 180, .inl (fun _ => 0)))]) (w1 := [(a1, .inr (6, [.ref a3, .ref a4, .ref a5, .int 1, .int 0])), (a3, .inl (G.2 3, 181, .inr (.inr (.inr (.inr (va_up (fun _ => none) (0 : Int32).toNatClampNeg (some (tk 0)))))))), (a4, .inl (G.2 0, 181, .inl (upd (fun _ => 0) (0 : Int32).toNatClampNeg 0))), (a5, .inl (G.2 0, 181, .inl (upd (fun _ => 0) (0 : Int32).toNatClampNeg 0)))]) hP hD [0, 2, 3, 4] [1] rfl rfl (by decide) (by decide) hk1 hFc hP1 hD1
  have hP : va_P G.1 nn_cls [(a2, .inl (G.2 1, 180, .inl (fun _ => 0))), (a1, .inr (6, [.ref a3, .ref a4, .ref a5, .int 1, .int 0])), (a3, .inl (G.2 3, 181, .inr (.inr (.inr (.inr (va_up (fun _ => none) (0 : Int32).toNatClampNeg (some (tk 0)))))))), (a4, .inl (G.2 0, 181, .inl (upd (fun _ => 0) (0 : Int32).toNatClampNeg 0))), (a5, .inl (G.2 0, 181, .inl (upd (fun _ => 0) (0 : Int32).toNatClampNeg 0)))] H := hP
  have hD : va_D A [(a2, .inl (G.2 1, 180, .inl (fun _ => 0))), (a1, .inr (6, [.ref a3, .ref a4, .ref a5, .int 1, .int 0])), (a3, .inl (G.2 3, 181, .inr (.inr (.inr (.inr (va_up (fun _ => none) (0 : Int32).toNatClampNeg (some (tk 0)))))))), (a4, .inl (G.2 0, 181, .inl (upd (fun _ => 0) (0 : Int32).toNatClampNeg 0))), (a5, .inl (G.2 0, 181, .inl (upd (fun _ => 0) (0 : Int32).toNatClampNeg 0)))] := hD
  refine W.widen (k := 0) (n := 0) (Nat.le_of_ble_eq_true rfl) (Nat.le_of_ble_eq_true rfl) ?_
  refine W.widen (k := 0) (n := 0) (Nat.le_of_ble_eq_true rfl) (Nat.le_of_ble_eq_true rfl) ?_
  have hP9 := hP.sub (ws' := [(a1, .inr (6, [.ref a3, .ref a4, .ref a5, .int 1, .int 0])), (a2, .inl (G.2 1, 180, .inl (fun _ => 0))), (a3, .inl (G.2 3, 181, .inr (.inr (.inr (.inr (va_up (fun _ => none) (0 : Int32).toNatClampNeg (some (tk 0)))))))), (a4, .inl (G.2 0, 181, .inl (upd (fun _ => 0) (0 : Int32).toNatClampNeg 0))), (a5, .inl (G.2 0, 181, .inl (upd (fun _ => 0) (0 : Int32).toNatClampNeg 0)))]) [1, 0, 2, 3, 4] rfl
  have hD9 := hD.sub (ws' := [(a1, .inr (6, [.ref a3, .ref a4, .ref a5, .int 1, .int 0])), (a2, .inl (G.2 1, 180, .inl (fun _ => 0))), (a3, .inl (G.2 3, 181, .inr (.inr (.inr (.inr (va_up (fun _ => none) (0 : Int32).toNatClampNeg (some (tk 0)))))))), (a4, .inl (G.2 0, 181, .inl (upd (fun _ => 0) (0 : Int32).toNatClampNeg 0))), (a5, .inl (G.2 0, 181, .inl (upd (fun _ => 0) (0 : Int32).toNatClampNeg 0)))]) [1, 0, 2, 3, 4] (by decide) rfl
  exact W.vret hx hb hr (fun t ht hW => ⟨⟨(), rfl, trivial, ⟨by rw [ht]; exact hP9, hD9⟩⟩, hS.F ht⟩) hS.2.2 d_Ts_cut_73

theorem mw_409 : (.methodLink R_Cm 46 y_Ts_cut : Cond) ∈ nn_gw := nn_at 409 (by decide +kernel) (by decide +kernel)
theorem mw_410 : (.instanceMethod y_Ts_cut : Cond) ∈ nn_gw := nn_at 410 (by decide +kernel) (by decide +kernel)
theorem mw_411 : (.selects R_Ts y_Ts_cut y_Ts_cut : Cond) ∈ nn_gw := nn_at 411 (by decide +kernel) (by decide +kernel)
theorem mw_412 : (.code y_Ts_cut b_Ts_cut 5 none : Cond) ∈ nn_gw := nn_at 412 (by decide +kernel) (by decide +kernel)
theorem d_Cm_block_0 : decode b_Cm_block 0 = .ok (.aload_n 0, 1) := by decide +kernel
theorem d_Cm_block_1 : decode b_Cm_block 1 = .ok (.getfield 28, 3) := by decide +kernel
theorem d_Cm_block_4 : decode b_Cm_block 4 = .ok (.bipush 7, 2) := by decide +kernel
theorem d_Cm_block_6 : decode b_Cm_block 6 = .ok (.iconst 0, 1) := by decide +kernel
theorem d_Cm_block_7 : decode b_Cm_block 7 = .ok (.iconst 0, 1) := by decide +kernel
theorem d_Cm_block_8 : decode b_Cm_block 8 = .ok (.invokevirtual 67, 3) := by decide +kernel
theorem d_Cm_translate_38 : decode b_Cm_translate 38 = .ok (.aload_n 0, 1) := by decide +kernel
theorem d_Cm_translate_39 : decode b_Cm_translate 39 = .ok (.iconst 0, 1) := by decide +kernel
theorem d_Cm_translate_40 : decode b_Cm_translate 40 = .ok (.invokevirtual 50, 3) := by decide +kernel
theorem d_Co_add_0 : decode b_Co_add 0 = .ok (.aload_n 0, 1) := by decide +kernel
theorem d_Co_add_1 : decode b_Co_add 1 = .ok (.getfield 21, 3) := by decide +kernel
theorem d_Co_add_4 : decode b_Co_add 4 = .ok (.sipush 180, 3) := by decide +kernel
theorem d_Co_add_7 : decode b_Co_add 7 = .ok (.if_icmp .lt 5, 3) := by decide +kernel
theorem d_Co_add_12 : decode b_Co_add 12 = .ok (.aload_n 0, 1) := by decide +kernel
theorem d_Co_add_13 : decode b_Co_add 13 = .ok (.getfield 11, 3) := by decide +kernel
theorem d_Co_add_16 : decode b_Co_add 16 = .ok (.aload_n 0, 1) := by decide +kernel
theorem d_Co_add_17 : decode b_Co_add 17 = .ok (.getfield 21, 3) := by decide +kernel
theorem d_Co_add_20 : decode b_Co_add 20 = .ok (.iload_n 1, 1) := by decide +kernel
theorem d_Co_add_21 : decode b_Co_add 21 = .ok (.iastore, 1) := by decide +kernel
theorem d_Co_add_22 : decode b_Co_add 22 = .ok (.aload_n 0, 1) := by decide +kernel
theorem d_Co_add_23 : decode b_Co_add 23 = .ok (.getfield 15, 3) := by decide +kernel
theorem d_Co_add_26 : decode b_Co_add 26 = .ok (.aload_n 0, 1) := by decide +kernel
theorem d_Co_add_27 : decode b_Co_add 27 = .ok (.getfield 21, 3) := by decide +kernel
theorem d_Co_add_30 : decode b_Co_add 30 = .ok (.iload_n 2, 1) := by decide +kernel
theorem d_Co_add_31 : decode b_Co_add 31 = .ok (.iastore, 1) := by decide +kernel
theorem d_Co_add_32 : decode b_Co_add 32 = .ok (.aload_n 0, 1) := by decide +kernel
theorem d_Co_add_33 : decode b_Co_add 33 = .ok (.getfield 18, 3) := by decide +kernel
theorem d_Co_add_36 : decode b_Co_add 36 = .ok (.aload_n 0, 1) := by decide +kernel
theorem d_Co_add_37 : decode b_Co_add 37 = .ok (.getfield 21, 3) := by decide +kernel
theorem d_Co_add_40 : decode b_Co_add 40 = .ok (.iload_n 3, 1) := by decide +kernel
theorem d_Co_add_41 : decode b_Co_add 41 = .ok (.iastore, 1) := by decide +kernel
theorem d_Co_add_42 : decode b_Co_add 42 = .ok (.aload_n 0, 1) := by decide +kernel
theorem d_Co_add_43 : decode b_Co_add 43 = .ok (.dup, 1) := by decide +kernel
theorem d_Co_add_44 : decode b_Co_add 44 = .ok (.getfield 21, 3) := by decide +kernel
theorem d_Co_add_47 : decode b_Co_add 47 = .ok (.iconst 1, 1) := by decide +kernel
theorem d_Co_add_48 : decode b_Co_add 48 = .ok (.iadd, 1) := by decide +kernel
theorem d_Co_add_49 : decode b_Co_add 49 = .ok (.putfield 21, 3) := by decide +kernel
theorem d_Co_add_52 : decode b_Co_add 52 = .ok (.aload_n 0, 1) := by decide +kernel
theorem d_Co_add_53 : decode b_Co_add 53 = .ok (.getfield 21, 3) := by decide +kernel
theorem d_Co_add_56 : decode b_Co_add 56 = .ok (.iconst 1, 1) := by decide +kernel
theorem d_Co_add_57 : decode b_Co_add 57 = .ok (.isub, 1) := by decide +kernel
theorem d_Co_add_58 : decode b_Co_add 58 = .ok (.ireturn, 1) := by decide +kernel

set_option maxHeartbeats 4000000 in
set_option maxRecDepth 100000 in
theorem a_Co_add_1 (l : Launch) (G : nn_G) (sz : Nat) (a1 a2 a3 a4 : Nat) : Met l y_Co_add w_Co_add ({ frames := 0, cells := 0, slots := 0, locals := 0 }) (nn_P G [.ref a1, .int 7, .int 0, .int 0] [(a1, .inr (1, [.ref a2, .ref a3, .ref a4, .int 0])), (a2, .inl (G.2 0, 180, .inl (fun _ => 0))), (a3, .inl (G.2 0, 180, .inl (fun _ => 0))), (a4, .inl (G.2 0, 180, .inl (fun _ => 0)))] sz) (va_Qi (fun (r : Int32) (u : Unit) => r = 0) (fun u t => va_P G.1 nn_cls [(a1, .inr (1, [.ref a2, .ref a3, .ref a4, .int 1])), (a2, .inl (G.2 0, 180, .inl (upd (fun _ => 0) (0 : Int32).toNatClampNeg 7))), (a3, .inl (G.2 0, 180, .inl (upd (fun _ => 0) (0 : Int32).toNatClampNeg 0))), (a4, .inl (G.2 0, 180, .inl (upd (fun _ => 0) (0 : Int32).toNatClampNeg 0)))] t.heap ∧ va_D (va_A [(a1, .inr (1, [.ref a2, .ref a3, .ref a4, .int 0])), (a2, .inl (G.2 0, 180, .inl (fun _ => 0))), (a3, .inl (G.2 0, 180, .inl (fun _ => 0))), (a4, .inl (G.2 0, 180, .inl (fun _ => 0)))] sz) [(a1, .inr (1, [.ref a2, .ref a3, .ref a4, .int 1])), (a2, .inl (G.2 0, 180, .inl (upd (fun _ => 0) (0 : Int32).toNatClampNeg 7))), (a3, .inl (G.2 0, 180, .inl (upd (fun _ => 0) (0 : Int32).toNatClampNeg 0))), (a4, .inl (G.2 0, 180, .inl (upd (fun _ => 0) (0 : Int32).toNatClampNeg 0)))]) (va_A [(a1, .inr (1, [.ref a2, .ref a3, .ref a4, .int 0])), (a2, .inl (G.2 0, 180, .inl (fun _ => 0))), (a3, .inl (G.2 0, 180, .inl (fun _ => 0))), (a4, .inl (G.2 0, 180, .inl (fun _ => 0)))] sz)) 0 0 (va_A [(a1, .inr (1, [.ref a2, .ref a3, .ref a4, .int 0])), (a2, .inl (G.2 0, 180, .inl (fun _ => 0))), (a3, .inl (G.2 0, 180, .inl (fun _ => 0))), (a4, .inl (G.2 0, 180, .inl (fun _ => 0)))] sz) := by
  refine Met.ofW (cc := b_Co_add) (maxL := 4) (ret := some .int) (by decide) rfl ?_
  intro p e s m args below meth c s₁ B hml hv
  obtain ⟨rfl, hsz, hP, hK, hD0, hN⟩ := hv
  have hx := B.exec
  have hb := B.bytes
  have hr := B.returns
  have hts := atoms_spec (ws := w_Co_add) B.pre
  have hg : ∀ w ∈ nn_gw, w.before _ s = true := fun w h => hts w (List.mem_cons_of_mem _ h)
  have hown : s.vm.findClass R_Co = some m.cls := findClass_of_methodNamed B.named
  have hlocks := B.notSynchronized
  subst hsz
  have hD := hD0.self (sz := s.heap.size)
  generalize hAe : va_A [(a1, .inr (1, [.ref a2, .ref a3, .ref a4, .int 0])), (a2, .inl (G.2 0, 180, .inl (fun _ => 0))), (a3, .inl (G.2 0, 180, .inl (fun _ => 0))), (a4, .inl (G.2 0, 180, .inl (fun _ => 0)))] s.heap.size = A at hD ⊢
  have hA : ∀ q : Nat, s.heap.size ≤ q → A q := fun q h => by rw [← hAe]; exact Or.inr h
  have hS : va_S A s.heap s.heap [] := va_S.rf
  have hP : va_P G.1 nn_cls [(a1, .inr (1, [.ref a2, .ref a3, .ref a4, .int 0])), (a2, .inl (G.2 0, 180, .inl (fun _ => 0))), (a3, .inl (G.2 0, 180, .inl (fun _ => 0))), (a4, .inl (G.2 0, 180, .inl (fun _ => 0)))] s.heap := hP
  have hP0 := hP
  have hl := lv_entry ([.ref a1, .int 7, .int 0, .int 0]) (n := 4) (Nat.le_of_ble_eq_true rfl)
  rw [lg_entry_eq]
  generalize (lg_sl ([.ref a1, .int 7, .int 0, .int 0]) ++ List.replicate (4 - (lg_sl ([.ref a1, .int 7, .int 0, .int 0])).length) Slot.unset).toArray = ls at hl ⊢
  have hl : lv_has ls 4 [(0, .ref a1), (1, .int 7), (2, .int 0), (3, .int 0)] := hl
  refine lv_aload_n hx hb d_Co_add_0 rfl (lv_at hl 0 rfl) ?_
  refine va_get (D := G.1) (ci := 1) (v := .int 0) (C := R_Co) (T := T_Co) (N := 4) hx hb hg in_Co hown hK hP 0 rfl rfl 3 (by decide) (hg _ mw_209) (fun _ h9 => h9) rfl d_Co_add_1 ?_
  refine lv_sipush (v := 180) hx hb d_Co_add_4 (by decide) ?_
  refine lv_icmp_lt (tgt := 12) hx hb d_Co_add_7 rfl (fun _ => ?_) (fun h => absurd (by decide) h)
  refine lv_aload_n hx hb d_Co_add_12 rfl (lv_at hl 0 rfl) ?_
  refine va_get (D := G.1) (ci := 1) (v := .ref a2) (C := R_Co) (T := T_Co) (N := 4) hx hb hg in_Co hown hK hP 0 rfl rfl 0 (by decide) (hg _ mw_206) (fun _ h9 => h9) rfl d_Co_add_13 ?_
  refine lv_aload_n hx hb d_Co_add_16 rfl (lv_at hl 0 rfl) ?_
  refine va_get (D := G.1) (ci := 1) (v := .int 0) (C := R_Co) (T := T_Co) (N := 4) hx hb hg in_Co hown hK hP 0 rfl rfl 3 (by decide) (hg _ mw_209) (fun _ h9 => h9) rfl d_Co_add_17 ?_
  refine lv_iload_n hx hb d_Co_add_20 rfl (lv_at hl 1 rfl) ?_
  refine va_iast hx hb hK hP hD hS 1 0 rfl rfl (nb_in rfl) d_Co_add_21 (fun H locs hP hD hS => ?_)
  have hP : va_P G.1 nn_cls [(a1, .inr (1, [.ref a2, .ref a3, .ref a4, .int 0])), (a2, .inl (G.2 0, 180, .inl (upd (fun _ => 0) (0 : Int32).toNatClampNeg 7))), (a3, .inl (G.2 0, 180, .inl (fun _ => 0))), (a4, .inl (G.2 0, 180, .inl (fun _ => 0)))] H := hP
  have hD : va_D A [(a1, .inr (1, [.ref a2, .ref a3, .ref a4, .int 0])), (a2, .inl (G.2 0, 180, .inl (upd (fun _ => 0) (0 : Int32).toNatClampNeg 7))), (a3, .inl (G.2 0, 180, .inl (fun _ => 0))), (a4, .inl (G.2 0, 180, .inl (fun _ => 0)))] := hD
  refine lv_aload_n hx hb d_Co_add_22 rfl (lv_at hl 0 rfl) ?_
  refine va_get (D := G.1) (ci := 1) (v := .ref a3) (C := R_Co) (T := T_Co) (N := 4) hx hb hg in_Co hown hK hP 0 rfl rfl 1 (by decide) (hg _ mw_207) (fun _ h9 => h9) rfl d_Co_add_23 ?_
  refine lv_aload_n hx hb d_Co_add_26 rfl (lv_at hl 0 rfl) ?_
  refine va_get (D := G.1) (ci := 1) (v := .int 0) (C := R_Co) (T := T_Co) (N := 4) hx hb hg in_Co hown hK hP 0 rfl rfl 3 (by decide) (hg _ mw_209) (fun _ h9 => h9) rfl d_Co_add_27 ?_
  refine lv_iload_n hx hb d_Co_add_30 rfl (lv_at hl 2 rfl) ?_
  refine va_iast hx hb hK hP hD hS 2 0 rfl rfl (nb_in rfl) d_Co_add_31 (fun H locs hP hD hS => ?_)
  have hP : va_P G.1 nn_cls [(a1, .inr (1, [.ref a2, .ref a3, .ref a4, .int 0])), (a2, .inl (G.2 0, 180, .inl (upd (fun _ => 0) (0 : Int32).toNatClampNeg 7))), (a3, .inl (G.2 0, 180, .inl (upd (fun _ => 0) (0 : Int32).toNatClampNeg 0))), (a4, .inl (G.2 0, 180, .inl (fun _ => 0)))] H := hP
  have hD : va_D A [(a1, .inr (1, [.ref a2, .ref a3, .ref a4, .int 0])), (a2, .inl (G.2 0, 180, .inl (upd (fun _ => 0) (0 : Int32).toNatClampNeg 7))), (a3, .inl (G.2 0, 180, .inl (upd (fun _ => 0) (0 : Int32).toNatClampNeg 0))), (a4, .inl (G.2 0, 180, .inl (fun _ => 0)))] := hD
  refine lv_aload_n hx hb d_Co_add_32 rfl (lv_at hl 0 rfl) ?_
  refine va_get (D := G.1) (ci := 1) (v := .ref a4) (C := R_Co) (T := T_Co) (N := 4) hx hb hg in_Co hown hK hP 0 rfl rfl 2 (by decide) (hg _ mw_208) (fun _ h9 => h9) rfl d_Co_add_33 ?_
  refine lv_aload_n hx hb d_Co_add_36 rfl (lv_at hl 0 rfl) ?_
  refine va_get (D := G.1) (ci := 1) (v := .int 0) (C := R_Co) (T := T_Co) (N := 4) hx hb hg in_Co hown hK hP 0 rfl rfl 3 (by decide) (hg _ mw_209) (fun _ h9 => h9) rfl d_Co_add_37 ?_
  refine lv_iload_n hx hb d_Co_add_40 rfl (lv_at hl 3 rfl) ?_
  refine va_iast hx hb hK hP hD hS 3 0 rfl rfl (nb_in rfl) d_Co_add_41 (fun H locs hP hD hS => ?_)
  have hP : va_P G.1 nn_cls [(a1, .inr (1, [.ref a2, .ref a3, .ref a4, .int 0])), (a2, .inl (G.2 0, 180, .inl (upd (fun _ => 0) (0 : Int32).toNatClampNeg 7))), (a3, .inl (G.2 0, 180, .inl (upd (fun _ => 0) (0 : Int32).toNatClampNeg 0))), (a4, .inl (G.2 0, 180, .inl (upd (fun _ => 0) (0 : Int32).toNatClampNeg 0)))] H := hP
  have hD : va_D A [(a1, .inr (1, [.ref a2, .ref a3, .ref a4, .int 0])), (a2, .inl (G.2 0, 180, .inl (upd (fun _ => 0) (0 : Int32).toNatClampNeg 7))), (a3, .inl (G.2 0, 180, .inl (upd (fun _ => 0) (0 : Int32).toNatClampNeg 0))), (a4, .inl (G.2 0, 180, .inl (upd (fun _ => 0) (0 : Int32).toNatClampNeg 0)))] := hD
  refine lv_aload_n hx hb d_Co_add_42 rfl (lv_at hl 0 rfl) ?_
  refine lv_dup hx hb d_Co_add_43 rfl ?_
  refine va_get (D := G.1) (ci := 1) (v := .int 0) (C := R_Co) (T := T_Co) (N := 4) hx hb hg in_Co hown hK hP 0 rfl rfl 3 (by decide) (hg _ mw_209) (fun _ h9 => h9) rfl d_Co_add_44 ?_
  refine lv_iconst (v := 1) hx hb d_Co_add_47 (by decide) ?_
  refine lv_iadd hx hb d_Co_add_48 ?_
  refine nb_top 1 (by decide) ?_
  refine va_put (D := G.1) (ci := 1) (v := .int 1) (ty := .int) (C := R_Co) (T := T_Co) (N := 4) hx hb hg in_Co t_Co ok_Co nm_Co hown hK hP hD hS 0 rfl rfl 3 (by decide) (hg _ mw_209) (fun _ h9 => h9) rfl (by decide +kernel) rfl rfl (Nat.le_of_ble_eq_true rfl) d_Co_add_49 (fun H locs hP hD hS => ?_)
  have hP : va_P G.1 nn_cls [(a1, .inr (1, [.ref a2, .ref a3, .ref a4, .int 1])), (a2, .inl (G.2 0, 180, .inl (upd (fun _ => 0) (0 : Int32).toNatClampNeg 7))), (a3, .inl (G.2 0, 180, .inl (upd (fun _ => 0) (0 : Int32).toNatClampNeg 0))), (a4, .inl (G.2 0, 180, .inl (upd (fun _ => 0) (0 : Int32).toNatClampNeg 0)))] H := hP
  have hD : va_D A [(a1, .inr (1, [.ref a2, .ref a3, .ref a4, .int 1])), (a2, .inl (G.2 0, 180, .inl (upd (fun _ => 0) (0 : Int32).toNatClampNeg 7))), (a3, .inl (G.2 0, 180, .inl (upd (fun _ => 0) (0 : Int32).toNatClampNeg 0))), (a4, .inl (G.2 0, 180, .inl (upd (fun _ => 0) (0 : Int32).toNatClampNeg 0)))] := hD
  refine lv_aload_n hx hb d_Co_add_52 rfl (lv_at hl 0 rfl) ?_
  refine va_get (D := G.1) (ci := 1) (v := .int 1) (C := R_Co) (T := T_Co) (N := 4) hx hb hg in_Co hown hK hP 0 rfl rfl 3 (by decide) (hg _ mw_209) (fun _ h9 => h9) rfl d_Co_add_53 ?_
  refine lv_iconst (v := 1) hx hb d_Co_add_56 (by decide) ?_
  refine lv_isub hx hb d_Co_add_57 ?_
  refine nb_top 0 (by decide) ?_
  refine W.widen (k := 0) (n := 0) (Nat.le_of_ble_eq_true rfl) (Nat.le_of_ble_eq_true rfl) ?_
  have hP9 := hP.sub (ws' := [(a1, .inr (1, [.ref a2, .ref a3, .ref a4, .int 1])), (a2, .inl (G.2 0, 180, .inl (upd (fun _ => 0) (0 : Int32).toNatClampNeg 7))), (a3, .inl (G.2 0, 180, .inl (upd (fun _ => 0) (0 : Int32).toNatClampNeg 0))), (a4, .inl (G.2 0, 180, .inl (upd (fun _ => 0) (0 : Int32).toNatClampNeg 0)))]) [0, 1, 2, 3] rfl
  have hD9 := hD.sub (ws' := [(a1, .inr (1, [.ref a2, .ref a3, .ref a4, .int 1])), (a2, .inl (G.2 0, 180, .inl (upd (fun _ => 0) (0 : Int32).toNatClampNeg 7))), (a3, .inl (G.2 0, 180, .inl (upd (fun _ => 0) (0 : Int32).toNatClampNeg 0))), (a4, .inl (G.2 0, 180, .inl (upd (fun _ => 0) (0 : Int32).toNatClampNeg 0)))]) [0, 1, 2, 3] (by decide) rfl
  exact W.iret (v := 0) hx hb hr (fun t ht hW => ⟨⟨0, (), rfl, rfl, ⟨by rw [ht]; exact hP9, hD9⟩⟩, hS.F ht⟩) hS.2.2 d_Co_add_58

theorem mw_506 : (.methodLink R_Cm 67 y_Co_add : Cond) ∈ nn_gw := nn_at 506 (by decide +kernel) (by decide +kernel)
theorem mw_507 : (.instanceMethod y_Co_add : Cond) ∈ nn_gw := nn_at 507 (by decide +kernel) (by decide +kernel)
theorem mw_508 : (.selects R_Co y_Co_add y_Co_add : Cond) ∈ nn_gw := nn_at 508 (by decide +kernel) (by decide +kernel)
theorem mw_509 : (.code y_Co_add b_Co_add 4 (some .int) : Cond) ∈ nn_gw := nn_at 509 (by decide +kernel) (by decide +kernel)
theorem mw_510 : (.fieldLink R_Cm 71 R_To "VAR" "LNestPascal$Token;" : Cond) ∈ nn_gw := nn_at 510 (by decide +kernel) (by decide +kernel)
theorem mw_512 : (.methodLink R_Cm 74 y_Ts_isAt : Cond) ∈ nn_gw := nn_at 512 (by decide +kernel) (by decide +kernel)
theorem mw_513 : (.instanceMethod y_Ts_isAt : Cond) ∈ nn_gw := nn_at 513 (by decide +kernel) (by decide +kernel)
theorem mw_514 : (.selects R_Ts y_Ts_isAt y_Ts_isAt : Cond) ∈ nn_gw := nn_at 514 (by decide +kernel) (by decide +kernel)
theorem mw_515 : (.code y_Ts_isAt b_Ts_isAt 2 (some .boolean) : Cond) ∈ nn_gw := nn_at 515 (by decide +kernel) (by decide +kernel)
theorem mw_634 : (.fieldLink R_Cm 85 R_To "PROC" "LNestPascal$Token;" : Cond) ∈ nn_gw := nn_at 634 (by decide +kernel) (by decide +kernel)
theorem d_Cm_block_11 : decode b_Cm_block 11 = .ok (.istore_n 2, 1) := by decide +kernel
theorem d_Cm_block_12 : decode b_Cm_block 12 = .ok (.iconst 3, 1) := by decide +kernel
theorem d_Cm_block_13 : decode b_Cm_block 13 = .ok (.istore_n 3, 1) := by decide +kernel
theorem d_Cm_block_14 : decode b_Cm_block 14 = .ok (.aload_n 0, 1) := by decide +kernel
theorem d_Cm_block_15 : decode b_Cm_block 15 = .ok (.getfield 12, 3) := by decide +kernel
theorem d_Cm_block_18 : decode b_Cm_block 18 = .ok (.getstatic 71, 3) := by decide +kernel
theorem d_Cm_block_21 : decode b_Cm_block 21 = .ok (.invokevirtual 74, 3) := by decide +kernel
theorem d_Cm_block_24 : decode b_Cm_block 24 = .ok (.ifCond .eq 16, 3) := by decide +kernel
theorem d_Cm_block_40 : decode b_Cm_block 40 = .ok (.iconst 0, 1) := by decide +kernel
theorem d_Cm_block_41 : decode b_Cm_block 41 = .ok (.istore 4, 2) := by decide +kernel
theorem d_Cm_block_43 : decode b_Cm_block 43 = .ok (.iload 4, 2) := by decide +kernel
theorem d_Cm_block_45 : decode b_Cm_block 45 = .ok (.sipush 180, 3) := by decide +kernel
theorem d_Cm_block_48 : decode b_Cm_block 48 = .ok (.if_icmp .ge 26, 3) := by decide +kernel
theorem d_Cm_block_51 : decode b_Cm_block 51 = .ok (.aload_n 0, 1) := by decide +kernel
theorem d_Cm_block_52 : decode b_Cm_block 52 = .ok (.getfield 12, 3) := by decide +kernel
theorem d_Cm_block_55 : decode b_Cm_block 55 = .ok (.getstatic 85, 3) := by decide +kernel
theorem d_Cm_block_58 : decode b_Cm_block 58 = .ok (.invokevirtual 74, 3) := by decide +kernel
theorem d_Cm_block_61 : decode b_Cm_block 61 = .ok (.ifCond .eq 13, 3) := by decide +kernel
theorem d_Cm_block_74 : decode b_Cm_block 74 = .ok (.aload_n 0, 1) := by decide +kernel
theorem d_Cm_block_75 : decode b_Cm_block 75 = .ok (.getfield 28, 3) := by decide +kernel
theorem d_Cm_block_78 : decode b_Cm_block 78 = .ok (.iload_n 2, 1) := by decide +kernel
theorem d_Cm_block_79 : decode b_Cm_block 79 = .ok (.invokevirtual 91, 3) := by decide +kernel
theorem d_Co_isOne_12 : decode b_Co_isOne 12 = .ok (.iconst 1, 1) := by decide +kernel
theorem d_Co_isOne_13 : decode b_Co_isOne 13 = .ok (.goto 4, 3) := by decide +kernel
theorem d_Co_leadHere_0 : decode b_Co_leadHere 0 = .ok (.aload_n 0, 1) := by decide +kernel
theorem d_Co_leadHere_1 : decode b_Co_leadHere 1 = .ok (.iload_n 1, 1) := by decide +kernel
theorem d_Co_leadHere_2 : decode b_Co_leadHere 2 = .ok (.invokevirtual 25, 3) := by decide +kernel

set_option maxHeartbeats 4000000 in
set_option maxRecDepth 100000 in
theorem a_Co_isOne_1 (l : Launch) (G : nn_G) (sz : Nat) (a1 a2 a3 a4 : Nat) : Met l y_Co_isOne w_Co_isOne ({ frames := 0, cells := 0, slots := 0, locals := 0 }) (nn_P G [.ref a1, .int 0] [(a1, .inr (1, [.ref a2, .ref a3, .ref a4, .int 1])), (a2, .inl (G.2 0, 180, .inl (upd (fun _ => 0) (0 : Int32).toNatClampNeg 7))), (a3, .inl (G.2 0, 180, .inl (upd (fun _ => 0) (0 : Int32).toNatClampNeg 0))), (a4, .inl (G.2 0, 180, .inl (upd (fun _ => 0) (0 : Int32).toNatClampNeg 0)))] sz) (va_Qi (fun (r : Int32) (u : Unit) => r = 1) (fun u t => va_P G.1 nn_cls [(a1, .inr (1, [.ref a2, .ref a3, .ref a4, .int 1])), (a2, .inl (G.2 0, 180, .inl (upd (fun _ => 0) (0 : Int32).toNatClampNeg 7))), (a3, .inl (G.2 0, 180, .inl (upd (fun _ => 0) (0 : Int32).toNatClampNeg 0))), (a4, .inl (G.2 0, 180, .inl (upd (fun _ => 0) (0 : Int32).toNatClampNeg 0)))] t.heap ∧ va_D (va_A [(a1, .inr (1, [.ref a2, .ref a3, .ref a4, .int 1])), (a2, .inl (G.2 0, 180, .inl (upd (fun _ => 0) (0 : Int32).toNatClampNeg 7))), (a3, .inl (G.2 0, 180, .inl (upd (fun _ => 0) (0 : Int32).toNatClampNeg 0))), (a4, .inl (G.2 0, 180, .inl (upd (fun _ => 0) (0 : Int32).toNatClampNeg 0)))] sz) [(a1, .inr (1, [.ref a2, .ref a3, .ref a4, .int 1])), (a2, .inl (G.2 0, 180, .inl (upd (fun _ => 0) (0 : Int32).toNatClampNeg 7))), (a3, .inl (G.2 0, 180, .inl (upd (fun _ => 0) (0 : Int32).toNatClampNeg 0))), (a4, .inl (G.2 0, 180, .inl (upd (fun _ => 0) (0 : Int32).toNatClampNeg 0)))]) (va_A [(a1, .inr (1, [.ref a2, .ref a3, .ref a4, .int 1])), (a2, .inl (G.2 0, 180, .inl (upd (fun _ => 0) (0 : Int32).toNatClampNeg 7))), (a3, .inl (G.2 0, 180, .inl (upd (fun _ => 0) (0 : Int32).toNatClampNeg 0))), (a4, .inl (G.2 0, 180, .inl (upd (fun _ => 0) (0 : Int32).toNatClampNeg 0)))] sz)) 0 0 (va_A [(a1, .inr (1, [.ref a2, .ref a3, .ref a4, .int 1])), (a2, .inl (G.2 0, 180, .inl (upd (fun _ => 0) (0 : Int32).toNatClampNeg 7))), (a3, .inl (G.2 0, 180, .inl (upd (fun _ => 0) (0 : Int32).toNatClampNeg 0))), (a4, .inl (G.2 0, 180, .inl (upd (fun _ => 0) (0 : Int32).toNatClampNeg 0)))] sz) := by
  refine Met.ofW (cc := b_Co_isOne) (maxL := 2) (ret := some .boolean) (by decide) rfl ?_
  intro p e s m args below meth c s₁ B hml hv
  obtain ⟨rfl, hsz, hP, hK, hD0, hN⟩ := hv
  have hx := B.exec
  have hb := B.bytes
  have hr := B.returns
  have hts := atoms_spec (ws := w_Co_isOne) B.pre
  have hg : ∀ w ∈ nn_gw, w.before _ s = true := fun w h => hts w (List.mem_cons_of_mem _ h)
  have hown : s.vm.findClass R_Co = some m.cls := findClass_of_methodNamed B.named
  have hlocks := B.notSynchronized
  subst hsz
  have hD := hD0.self (sz := s.heap.size)
  generalize hAe : va_A [(a1, .inr (1, [.ref a2, .ref a3, .ref a4, .int 1])), (a2, .inl (G.2 0, 180, .inl (upd (fun _ => 0) (0 : Int32).toNatClampNeg 7))), (a3, .inl (G.2 0, 180, .inl (upd (fun _ => 0) (0 : Int32).toNatClampNeg 0))), (a4, .inl (G.2 0, 180, .inl (upd (fun _ => 0) (0 : Int32).toNatClampNeg 0)))] s.heap.size = A at hD ⊢
  have hA : ∀ q : Nat, s.heap.size ≤ q → A q := fun q h => by rw [← hAe]; exact Or.inr h
  have hS : va_S A s.heap s.heap [] := va_S.rf
  have hP : va_P G.1 nn_cls [(a1, .inr (1, [.ref a2, .ref a3, .ref a4, .int 1])), (a2, .inl (G.2 0, 180, .inl (upd (fun _ => 0) (0 : Int32).toNatClampNeg 7))), (a3, .inl (G.2 0, 180, .inl (upd (fun _ => 0) (0 : Int32).toNatClampNeg 0))), (a4, .inl (G.2 0, 180, .inl (upd (fun _ => 0) (0 : Int32).toNatClampNeg 0)))] s.heap := hP
  have hP0 := hP
  have hl := lv_entry ([.ref a1, .int 0]) (n := 2) (Nat.le_of_ble_eq_true rfl)
  rw [lg_entry_eq]
  generalize (lg_sl ([.ref a1, .int 0]) ++ List.replicate (2 - (lg_sl ([.ref a1, .int 0])).length) Slot.unset).toArray = ls at hl ⊢
  have hl : lv_has ls 2 [(0, .ref a1), (1, .int 0)] := hl
  refine lv_iload_n hx hb d_Co_isOne_0 rfl (lv_at hl 1 rfl) ?_
  refine lv_if_lt (tgt := 16) hx hb d_Co_isOne_1 rfl (fun h => absurd h (by decide)) (fun _ => ?_)
  refine lv_iload_n hx hb d_Co_isOne_4 rfl (lv_at hl 1 rfl) ?_
  refine lv_aload_n hx hb d_Co_isOne_5 rfl (lv_at hl 0 rfl) ?_
  refine va_get (D := G.1) (ci := 1) (v := .int 1) (C := R_Co) (T := T_Co) (N := 4) hx hb hg in_Co hown hK hP 0 rfl rfl 3 (by decide) (hg _ mw_209) (fun _ h9 => h9) rfl d_Co_isOne_6 ?_
  refine lv_icmp_ge (tgt := 16) hx hb d_Co_isOne_9 rfl (fun h => absurd h (by decide)) (fun _ => ?_)
  refine lv_iconst (v := 1) hx hb d_Co_isOne_12 (by decide) ?_
  refine lv_goto (tgt := 17) hx hb d_Co_isOne_13 rfl ?_
  refine W.widen (k := 0) (n := 0) (Nat.le_of_ble_eq_true rfl) (Nat.le_of_ble_eq_true rfl) ?_
  have hP9 := hP.sub (ws' := [(a1, .inr (1, [.ref a2, .ref a3, .ref a4, .int 1])), (a2, .inl (G.2 0, 180, .inl (upd (fun _ => 0) (0 : Int32).toNatClampNeg 7))), (a3, .inl (G.2 0, 180, .inl (upd (fun _ => 0) (0 : Int32).toNatClampNeg 0))), (a4, .inl (G.2 0, 180, .inl (upd (fun _ => 0) (0 : Int32).toNatClampNeg 0)))]) [0, 1, 2, 3] rfl
  have hD9 := hD.sub (ws' := [(a1, .inr (1, [.ref a2, .ref a3, .ref a4, .int 1])), (a2, .inl (G.2 0, 180, .inl (upd (fun _ => 0) (0 : Int32).toNatClampNeg 7))), (a3, .inl (G.2 0, 180, .inl (upd (fun _ => 0) (0 : Int32).toNatClampNeg 0))), (a4, .inl (G.2 0, 180, .inl (upd (fun _ => 0) (0 : Int32).toNatClampNeg 0)))]) [0, 1, 2, 3] (by decide) rfl
  exact W.zret (v := 1) hx hb hr rfl (fun t ht hW => ⟨⟨1, (), rfl, rfl, ⟨by rw [ht]; exact hP9, hD9⟩⟩, hS.F ht⟩) hS.2.2 d_Co_isOne_17

theorem d_Co_leadHere_5 : decode b_Co_leadHere 5 = .ok (.ifCond .eq 13, 3) := by decide +kernel
theorem d_Co_leadHere_8 : decode b_Co_leadHere 8 = .ok (.aload_n 0, 1) := by decide +kernel
theorem d_Co_leadHere_9 : decode b_Co_leadHere 9 = .ok (.getfield 18, 3) := by decide +kernel
theorem d_Co_leadHere_12 : decode b_Co_leadHere 12 = .ok (.iload_n 1, 1) := by decide +kernel
theorem d_Co_leadHere_13 : decode b_Co_leadHere 13 = .ok (.aload_n 0, 1) := by decide +kernel
theorem d_Co_leadHere_14 : decode b_Co_leadHere 14 = .ok (.getfield 21, 3) := by decide +kernel
theorem d_Co_leadHere_17 : decode b_Co_leadHere 17 = .ok (.iastore, 1) := by decide +kernel
theorem d_Co_leadHere_18 : decode b_Co_leadHere 18 = .ok (.return_, 1) := by decide +kernel

set_option maxHeartbeats 4000000 in
set_option maxRecDepth 100000 in
theorem a_Co_leadHere_1 (l : Launch) (G : nn_G) (sz : Nat) (a1 a2 a3 a4 : Nat) : Met l y_Co_leadHere w_Co_leadHere ({ frames := 1, cells := 0, slots := 0, locals := 21 }) (nn_P G [.ref a1, .int 0] [(a1, .inr (1, [.ref a2, .ref a3, .ref a4, .int 1])), (a2, .inl (G.2 0, 180, .inl (upd (fun _ => 0) (0 : Int32).toNatClampNeg 7))), (a3, .inl (G.2 0, 180, .inl (upd (fun _ => 0) (0 : Int32).toNatClampNeg 0))), (a4, .inl (G.2 0, 180, .inl (upd (fun _ => 0) (0 : Int32).toNatClampNeg 0)))] sz) (va_Qv (fun u : Unit => True) (fun u t => va_P G.1 nn_cls [(a1, .inr (1, [.ref a2, .ref a3, .ref a4, .int 1])), (a2, .inl (G.2 0, 180, .inl (upd (fun _ => 0) (0 : Int32).toNatClampNeg 7))), (a3, .inl (G.2 0, 180, .inl (upd (fun _ => 0) (0 : Int32).toNatClampNeg 0))), (a4, .inl (G.2 0, 180, .inl (upd (upd (fun _ => 0) (0 : Int32).toNatClampNeg 0) (0 : Int32).toNatClampNeg 1)))] t.heap ∧ va_D (va_A [(a1, .inr (1, [.ref a2, .ref a3, .ref a4, .int 1])), (a2, .inl (G.2 0, 180, .inl (upd (fun _ => 0) (0 : Int32).toNatClampNeg 7))), (a3, .inl (G.2 0, 180, .inl (upd (fun _ => 0) (0 : Int32).toNatClampNeg 0))), (a4, .inl (G.2 0, 180, .inl (upd (fun _ => 0) (0 : Int32).toNatClampNeg 0)))] sz) [(a1, .inr (1, [.ref a2, .ref a3, .ref a4, .int 1])), (a2, .inl (G.2 0, 180, .inl (upd (fun _ => 0) (0 : Int32).toNatClampNeg 7))), (a3, .inl (G.2 0, 180, .inl (upd (fun _ => 0) (0 : Int32).toNatClampNeg 0))), (a4, .inl (G.2 0, 180, .inl (upd (upd (fun _ => 0) (0 : Int32).toNatClampNeg 0) (0 : Int32).toNatClampNeg 1)))]) (va_A [(a1, .inr (1, [.ref a2, .ref a3, .ref a4, .int 1])), (a2, .inl (G.2 0, 180, .inl (upd (fun _ => 0) (0 : Int32).toNatClampNeg 7))), (a3, .inl (G.2 0, 180, .inl (upd (fun _ => 0) (0 : Int32).toNatClampNeg 0))), (a4, .inl (G.2 0, 180, .inl (upd (fun _ => 0) (0 : Int32).toNatClampNeg 0)))] sz)) 0 0 (va_A [(a1, .inr (1, [.ref a2, .ref a3, .ref a4, .int 1])), (a2, .inl (G.2 0, 180, .inl (upd (fun _ => 0) (0 : Int32).toNatClampNeg 7))), (a3, .inl (G.2 0, 180, .inl (upd (fun _ => 0) (0 : Int32).toNatClampNeg 0))), (a4, .inl (G.2 0, 180, .inl (upd (fun _ => 0) (0 : Int32).toNatClampNeg 0)))] sz) := by
  refine Met.ofW (cc := b_Co_leadHere) (maxL := 2) (ret := none) (by decide) rfl ?_
  intro p e s m args below meth c s₁ B hml hv
  obtain ⟨rfl, hsz, hP, hK, hD0, hN⟩ := hv
  have hx := B.exec
  have hb := B.bytes
  have hr := B.returns
  have hts := atoms_spec (ws := w_Co_leadHere) B.pre
  have hg : ∀ w ∈ nn_gw, w.before _ s = true := fun w h => hts w (List.mem_cons_of_mem _ h)
  have hown : s.vm.findClass R_Co = some m.cls := findClass_of_methodNamed B.named
  have hlocks := B.notSynchronized
  subst hsz
  have hD := hD0.self (sz := s.heap.size)
  generalize hAe : va_A [(a1, .inr (1, [.ref a2, .ref a3, .ref a4, .int 1])), (a2, .inl (G.2 0, 180, .inl (upd (fun _ => 0) (0 : Int32).toNatClampNeg 7))), (a3, .inl (G.2 0, 180, .inl (upd (fun _ => 0) (0 : Int32).toNatClampNeg 0))), (a4, .inl (G.2 0, 180, .inl (upd (fun _ => 0) (0 : Int32).toNatClampNeg 0)))] s.heap.size = A at hD ⊢
  have hA : ∀ q : Nat, s.heap.size ≤ q → A q := fun q h => by rw [← hAe]; exact Or.inr h
  have hS : va_S A s.heap s.heap [] := va_S.rf
  have hP : va_P G.1 nn_cls [(a1, .inr (1, [.ref a2, .ref a3, .ref a4, .int 1])), (a2, .inl (G.2 0, 180, .inl (upd (fun _ => 0) (0 : Int32).toNatClampNeg 7))), (a3, .inl (G.2 0, 180, .inl (upd (fun _ => 0) (0 : Int32).toNatClampNeg 0))), (a4, .inl (G.2 0, 180, .inl (upd (fun _ => 0) (0 : Int32).toNatClampNeg 0)))] s.heap := hP
  have hP0 := hP
  have hl := lv_entry ([.ref a1, .int 0]) (n := 2) (Nat.le_of_ble_eq_true rfl)
  rw [lg_entry_eq]
  generalize (lg_sl ([.ref a1, .int 0]) ++ List.replicate (2 - (lg_sl ([.ref a1, .int 0])).length) Slot.unset).toArray = ls at hl ⊢
  have hl : lv_has ls 2 [(0, .ref a1), (1, .int 0)] := hl
  refine lv_aload_n hx hb d_Co_leadHere_0 rfl (lv_at hl 0 rfl) ?_
  refine lv_iload_n hx hb d_Co_leadHere_1 rfl (lv_at hl 1 rfl) ?_
  have hPc := hP.sub (ws' := [(a1, .inr (1, [.ref a2, .ref a3, .ref a4, .int 1])), (a2, .inl (G.2 0, 180, .inl (upd (fun _ => 0) (0 : Int32).toNatClampNeg 7))), (a3, .inl (G.2 0, 180, .inl (upd (fun _ => 0) (0 : Int32).toNatClampNeg 0))), (a4, .inl (G.2 0, 180, .inl (upd (fun _ => 0) (0 : Int32).toNatClampNeg 0)))]) [0, 1, 2, 3] rfl
  have hDc := hD.sub (ws' := [(a1, .inr (1, [.ref a2, .ref a3, .ref a4, .int 1])), (a2, .inl (G.2 0, 180, .inl (upd (fun _ => 0) (0 : Int32).toNatClampNeg 7))), (a3, .inl (G.2 0, 180, .inl (upd (fun _ => 0) (0 : Int32).toNatClampNeg 0))), (a4, .inl (G.2 0, 180, .inl (upd (fun _ => 0) (0 : Int32).toNatClampNeg 0)))]) [0, 1, 2, 3] (by decide) rfl
  have hFc := va_free (wc := [(a1, .inr (1, [.ref a2, .ref a3, .ref a4, .int 1])), (a2, .inl (G.2 0, 180, .inl (upd (fun _ => 0) (0 : Int32).toNatClampNeg 7))), (a3, .inl (G.2 0, 180, .inl (upd (fun _ => 0) (0 : Int32).toNatClampNeg 0))), (a4, .inl (G.2 0, 180, .inl (upd (fun _ => 0) (0 : Int32).toNatClampNeg 0)))]) hD hS hA [0, 1, 2, 3] rfl
  refine va_calli (va_runV (As := [.int 0]) (rest := []) ⟨hx, hb, hml, hown, hts⟩ (a_Co_isOne_1 l G _ a1 a2 a3 a4) (cwV 1 hts (nn_gV mw_325 mw_322 mw_324 mw_1 mw_92) rfl rfl rfl (by decide +kernel) ⟨Nat.le_of_ble_eq_true rfl, Nat.le_of_ble_eq_true rfl⟩) (nn_preV (va_recv hK hP rfl (q0 := 0) rfl) hPc hDc hK hN) rfl rfl hl.1 rfl (lv_room (Nat.le_of_ble_eq_true rfl)) d_Co_leadHere_2 ⟨(Nat.le_of_ble_eq_true rfl), (Nat.le_of_ble_eq_true rfl)⟩) hS (fun q _ h => hFc q h) hFc (fun r2 u1 t H locs ht hvm hw hB hz1 hk1 hS => ?_)
  obtain rfl : r2 = 1 := hw
  obtain ⟨hP1, hD1⟩ := hB
  rw [ht] at hP1
  obtain ⟨hP, hD⟩ := va_join (wr := []) (w1 := [(a1, .inr (1, [.ref a2, .ref a3, .ref a4, .int 1])), (a2, .inl (G.2 0, 180, .inl (upd (fun _ => 0) (0 : Int32).toNatClampNeg 7))), (a3, .inl (G.2 0, 180, .inl (upd (fun _ => 0) (0 : Int32).toNatClampNeg 0))), (a4, .inl (G.2 0, 180, .inl (upd (fun _ => 0) (0 : Int32).toNatClampNeg 0)))]) hP hD [0, 1, 2, 3] [] rfl rfl (by decide) (by decide) hk1 hFc hP1 hD1
  have hP : va_P G.1 nn_cls [(a1, .inr (1, [.ref a2, .ref a3, .ref a4, .int 1])), (a2, .inl (G.2 0, 180, .inl (upd (fun _ => 0) (0 : Int32).toNatClampNeg 7))), (a3, .inl (G.2 0, 180, .inl (upd (fun _ => 0) (0 : Int32).toNatClampNeg 0))), (a4, .inl (G.2 0, 180, .inl (upd (fun _ => 0) (0 : Int32).toNatClampNeg 0)))] H := hP
  have hD : va_D A [(a1, .inr (1, [.ref a2, .ref a3, .ref a4, .int 1])), (a2, .inl (G.2 0, 180, .inl (upd (fun _ => 0) (0 : Int32).toNatClampNeg 7))), (a3, .inl (G.2 0, 180, .inl (upd (fun _ => 0) (0 : Int32).toNatClampNeg 0))), (a4, .inl (G.2 0, 180, .inl (upd (fun _ => 0) (0 : Int32).toNatClampNeg 0)))] := hD
  refine W.widen (k := 0) (n := 0) (Nat.le_of_ble_eq_true rfl) (Nat.le_of_ble_eq_true rfl) ?_
  refine lv_if_eq (tgt := 18) hx hb d_Co_leadHere_5 rfl (fun h => absurd h (by decide)) (fun _ => ?_)
  refine lv_aload_n hx hb d_Co_leadHere_8 rfl (lv_at hl 0 rfl) ?_
  refine va_get (D := G.1) (ci := 1) (v := .ref a4) (C := R_Co) (T := T_Co) (N := 4) hx hb hg in_Co hown hK hP 0 rfl rfl 2 (by decide) (hg _ mw_208) (fun _ h9 => h9) rfl d_Co_leadHere_9 ?_
  refine lv_iload_n hx hb d_Co_leadHere_12 rfl (lv_at hl 1 rfl) ?_
  refine lv_aload_n hx hb d_Co_leadHere_13 rfl (lv_at hl 0 rfl) ?_
  refine va_get (D := G.1) (ci := 1) (v := .int 1) (C := R_Co) (T := T_Co) (N := 4) hx hb hg in_Co hown hK hP 0 rfl rfl 3 (by decide) (hg _ mw_209) (fun _ h9 => h9) rfl d_Co_leadHere_14 ?_
  refine va_iast hx hb hK hP hD hS 3 0 rfl rfl (nb_in rfl) d_Co_leadHere_17 (fun H locs hP hD hS => ?_)
  have hP : va_P G.1 nn_cls [(a1, .inr (1, [.ref a2, .ref a3, .ref a4, .int 1])), (a2, .inl (G.2 0, 180, .inl (upd (fun _ => 0) (0 : Int32).toNatClampNeg 7))), (a3, .inl (G.2 0, 180, .inl (upd (fun _ => 0) (0 : Int32).toNatClampNeg 0))), (a4, .inl (G.2 0, 180, .inl (upd (upd (fun _ => 0) (0 : Int32).toNatClampNeg 0) (0 : Int32).toNatClampNeg 1)))] H := hP
  have hD : va_D A [(a1, .inr (1, [.ref a2, .ref a3, .ref a4, .int 1])), (a2, .inl (G.2 0, 180, .inl (upd (fun _ => 0) (0 : Int32).toNatClampNeg 7))), (a3, .inl (G.2 0, 180, .inl (upd (fun _ => 0) (0 : Int32).toNatClampNeg 0))), (a4, .inl (G.2 0, 180, .inl (upd (upd (fun _ => 0) (0 : Int32).toNatClampNeg 0) (0 : Int32).toNatClampNeg 1)))] := hD
  refine W.widen (k := 0) (n := 0) (Nat.le_of_ble_eq_true rfl) (Nat.le_of_ble_eq_true rfl) ?_
  have hP9 := hP.sub (ws' := [(a1, .inr (1, [.ref a2, .ref a3, .ref a4, .int 1])), (a2, .inl (G.2 0, 180, .inl (upd (fun _ => 0) (0 : Int32).toNatClampNeg 7))), (a3, .inl (G.2 0, 180, .inl (upd (fun _ => 0) (0 : Int32).toNatClampNeg 0))), (a4, .inl (G.2 0, 180, .inl (upd (upd (fun _ => 0) (0 : Int32).toNatClampNeg 0) (0 : Int32).toNatClampNeg 1)))]) [0, 1, 2, 3] rfl
  have hD9 := hD.sub (ws' := [(a1, .inr (1, [.ref a2, .ref a3, .ref a4, .int 1])), (a2, .inl (G.2 0, 180, .inl (upd (fun _ => 0) (0 : Int32).toNatClampNeg 7))), (a3, .inl (G.2 0, 180, .inl (upd (fun _ => 0) (0 : Int32).toNatClampNeg 0))), (a4, .inl (G.2 0, 180, .inl (upd (upd (fun _ => 0) (0 : Int32).toNatClampNeg 0) (0 : Int32).toNatClampNeg 1)))]) [0, 1, 2, 3] (by decide) rfl
  exact W.vret hx hb hr (fun t ht hW => ⟨⟨(), rfl, trivial, ⟨by rw [ht]; exact hP9, hD9⟩⟩, hS.F ht⟩) hS.2.2 d_Co_leadHere_18

theorem mw_667 : (.methodLink R_Cm 91 y_Co_leadHere : Cond) ∈ nn_gw := nn_at 667 (by decide +kernel) (by decide +kernel)
theorem mw_668 : (.instanceMethod y_Co_leadHere : Cond) ∈ nn_gw := nn_at 668 (by decide +kernel) (by decide +kernel)
theorem mw_669 : (.selects R_Co y_Co_leadHere y_Co_leadHere : Cond) ∈ nn_gw := nn_at 669 (by decide +kernel) (by decide +kernel)
theorem mw_670 : (.code y_Co_leadHere b_Co_leadHere 2 none : Cond) ∈ nn_gw := nn_at 670 (by decide +kernel) (by decide +kernel)
theorem d_Cm_block_82 : decode b_Cm_block 82 = .ok (.aload_n 0, 1) := by decide +kernel
theorem d_Cm_block_83 : decode b_Cm_block 83 = .ok (.getfield 28, 3) := by decide +kernel
theorem d_Cm_block_86 : decode b_Cm_block 86 = .ok (.bipush 6, 2) := by decide +kernel
theorem d_Cm_block_88 : decode b_Cm_block 88 = .ok (.iconst 0, 1) := by decide +kernel
theorem d_Cm_block_89 : decode b_Cm_block 89 = .ok (.iload_n 3, 1) := by decide +kernel
theorem d_Cm_block_90 : decode b_Cm_block 90 = .ok (.invokevirtual 67, 3) := by decide +kernel

set_option maxHeartbeats 4000000 in
set_option maxRecDepth 100000 in
theorem a_Co_add_2 (l : Launch) (G : nn_G) (sz : Nat) (a1 a2 a3 a4 : Nat) : Met l y_Co_add w_Co_add ({ frames := 0, cells := 0, slots := 0, locals := 0 }) (nn_P G [.ref a1, .int 6, .int 0, .int 3] [(a1, .inr (1, [.ref a2, .ref a3, .ref a4, .int 1])), (a2, .inl (G.2 0, 180, .inl (upd (fun _ => 0) (0 : Int32).toNatClampNeg 7))), (a3, .inl (G.2 0, 180, .inl (upd (fun _ => 0) (0 : Int32).toNatClampNeg 0))), (a4, .inl (G.2 0, 180, .inl (upd (upd (fun _ => 0) (0 : Int32).toNatClampNeg 0) (0 : Int32).toNatClampNeg 1)))] sz) (va_Qi (fun (r : Int32) (u : Unit) => r = 1) (fun u t => va_P G.1 nn_cls [(a1, .inr (1, [.ref a2, .ref a3, .ref a4, .int 2])), (a2, .inl (G.2 0, 180, .inl (upd (upd (fun _ => 0) (0 : Int32).toNatClampNeg 7) (1 : Int32).toNatClampNeg 6))), (a3, .inl (G.2 0, 180, .inl (upd (upd (fun _ => 0) (0 : Int32).toNatClampNeg 0) (1 : Int32).toNatClampNeg 0))), (a4, .inl (G.2 0, 180, .inl (upd (upd (upd (fun _ => 0) (0 : Int32).toNatClampNeg 0) (0 : Int32).toNatClampNeg 1) (1 : Int32).toNatClampNeg 3)))] t.heap ∧ va_D (va_A [(a1, .inr (1, [.ref a2, .ref a3, .ref a4, .int 1])), (a2, .inl (G.2 0, 180, .inl (upd (fun _ => 0) (0 : Int32).toNatClampNeg 7))), (a3, .inl (G.2 0, 180, .inl (upd (fun _ => 0) (0 : Int32).toNatClampNeg 0))), (a4, .inl (G.2 0, 180, .inl (upd (upd (fun _ => 0) (0 : Int32).toNatClampNeg 0) (0 : Int32).toNatClampNeg 1)))] sz) [(a1, .inr (1, [.ref a2, .ref a3, .ref a4, .int 2])), (a2, .inl (G.2 0, 180, .inl (upd (upd (fun _ => 0) (0 : Int32).toNatClampNeg 7) (1 : Int32).toNatClampNeg 6))), (a3, .inl (G.2 0, 180, .inl (upd (upd (fun _ => 0) (0 : Int32).toNatClampNeg 0) (1 : Int32).toNatClampNeg 0))), (a4, .inl (G.2 0, 180, .inl (upd (upd (upd (fun _ => 0) (0 : Int32).toNatClampNeg 0) (0 : Int32).toNatClampNeg 1) (1 : Int32).toNatClampNeg 3)))]) (va_A [(a1, .inr (1, [.ref a2, .ref a3, .ref a4, .int 1])), (a2, .inl (G.2 0, 180, .inl (upd (fun _ => 0) (0 : Int32).toNatClampNeg 7))), (a3, .inl (G.2 0, 180, .inl (upd (fun _ => 0) (0 : Int32).toNatClampNeg 0))), (a4, .inl (G.2 0, 180, .inl (upd (upd (fun _ => 0) (0 : Int32).toNatClampNeg 0) (0 : Int32).toNatClampNeg 1)))] sz)) 0 0 (va_A [(a1, .inr (1, [.ref a2, .ref a3, .ref a4, .int 1])), (a2, .inl (G.2 0, 180, .inl (upd (fun _ => 0) (0 : Int32).toNatClampNeg 7))), (a3, .inl (G.2 0, 180, .inl (upd (fun _ => 0) (0 : Int32).toNatClampNeg 0))), (a4, .inl (G.2 0, 180, .inl (upd (upd (fun _ => 0) (0 : Int32).toNatClampNeg 0) (0 : Int32).toNatClampNeg 1)))] sz) := by
  refine Met.ofW (cc := b_Co_add) (maxL := 4) (ret := some .int) (by decide) rfl ?_
  intro p e s m args below meth c s₁ B hml hv
  obtain ⟨rfl, hsz, hP, hK, hD0, hN⟩ := hv
  have hx := B.exec
  have hb := B.bytes
  have hr := B.returns
  have hts := atoms_spec (ws := w_Co_add) B.pre
  have hg : ∀ w ∈ nn_gw, w.before _ s = true := fun w h => hts w (List.mem_cons_of_mem _ h)
  have hown : s.vm.findClass R_Co = some m.cls := findClass_of_methodNamed B.named
  have hlocks := B.notSynchronized
  subst hsz
  have hD := hD0.self (sz := s.heap.size)
  generalize hAe : va_A [(a1, .inr (1, [.ref a2, .ref a3, .ref a4, .int 1])), (a2, .inl (G.2 0, 180, .inl (upd (fun _ => 0) (0 : Int32).toNatClampNeg 7))), (a3, .inl (G.2 0, 180, .inl (upd (fun _ => 0) (0 : Int32).toNatClampNeg 0))), (a4, .inl (G.2 0, 180, .inl (upd (upd (fun _ => 0) (0 : Int32).toNatClampNeg 0) (0 : Int32).toNatClampNeg 1)))] s.heap.size = A at hD ⊢
  have hA : ∀ q : Nat, s.heap.size ≤ q → A q := fun q h => by rw [← hAe]; exact Or.inr h
  have hS : va_S A s.heap s.heap [] := va_S.rf
  have hP : va_P G.1 nn_cls [(a1, .inr (1, [.ref a2, .ref a3, .ref a4, .int 1])), (a2, .inl (G.2 0, 180, .inl (upd (fun _ => 0) (0 : Int32).toNatClampNeg 7))), (a3, .inl (G.2 0, 180, .inl (upd (fun _ => 0) (0 : Int32).toNatClampNeg 0))), (a4, .inl (G.2 0, 180, .inl (upd (upd (fun _ => 0) (0 : Int32).toNatClampNeg 0) (0 : Int32).toNatClampNeg 1)))] s.heap := hP
  have hP0 := hP
  have hl := lv_entry ([.ref a1, .int 6, .int 0, .int 3]) (n := 4) (Nat.le_of_ble_eq_true rfl)
  rw [lg_entry_eq]
  generalize (lg_sl ([.ref a1, .int 6, .int 0, .int 3]) ++ List.replicate (4 - (lg_sl ([.ref a1, .int 6, .int 0, .int 3])).length) Slot.unset).toArray = ls at hl ⊢
  have hl : lv_has ls 4 [(0, .ref a1), (1, .int 6), (2, .int 0), (3, .int 3)] := hl
  refine lv_aload_n hx hb d_Co_add_0 rfl (lv_at hl 0 rfl) ?_
  refine va_get (D := G.1) (ci := 1) (v := .int 1) (C := R_Co) (T := T_Co) (N := 4) hx hb hg in_Co hown hK hP 0 rfl rfl 3 (by decide) (hg _ mw_209) (fun _ h9 => h9) rfl d_Co_add_1 ?_
  refine lv_sipush (v := 180) hx hb d_Co_add_4 (by decide) ?_
  refine lv_icmp_lt (tgt := 12) hx hb d_Co_add_7 rfl (fun _ => ?_) (fun h => absurd (by decide) h)
  refine lv_aload_n hx hb d_Co_add_12 rfl (lv_at hl 0 rfl) ?_
  refine va_get (D := G.1) (ci := 1) (v := .ref a2) (C := R_Co) (T := T_Co) (N := 4) hx hb hg in_Co hown hK hP 0 rfl rfl 0 (by decide) (hg _ mw_206) (fun _ h9 => h9) rfl d_Co_add_13 ?_
  refine lv_aload_n hx hb d_Co_add_16 rfl (lv_at hl 0 rfl) ?_
  refine va_get (D := G.1) (ci := 1) (v := .int 1) (C := R_Co) (T := T_Co) (N := 4) hx hb hg in_Co hown hK hP 0 rfl rfl 3 (by decide) (hg _ mw_209) (fun _ h9 => h9) rfl d_Co_add_17 ?_
  refine lv_iload_n hx hb d_Co_add_20 rfl (lv_at hl 1 rfl) ?_
  refine va_iast hx hb hK hP hD hS 1 0 rfl rfl (nb_in rfl) d_Co_add_21 (fun H locs hP hD hS => ?_)
  have hP : va_P G.1 nn_cls [(a1, .inr (1, [.ref a2, .ref a3, .ref a4, .int 1])), (a2, .inl (G.2 0, 180, .inl (upd (upd (fun _ => 0) (0 : Int32).toNatClampNeg 7) (1 : Int32).toNatClampNeg 6))), (a3, .inl (G.2 0, 180, .inl (upd (fun _ => 0) (0 : Int32).toNatClampNeg 0))), (a4, .inl (G.2 0, 180, .inl (upd (upd (fun _ => 0) (0 : Int32).toNatClampNeg 0) (0 : Int32).toNatClampNeg 1)))] H := hP
  have hD : va_D A [(a1, .inr (1, [.ref a2, .ref a3, .ref a4, .int 1])), (a2, .inl (G.2 0, 180, .inl (upd (upd (fun _ => 0) (0 : Int32).toNatClampNeg 7) (1 : Int32).toNatClampNeg 6))), (a3, .inl (G.2 0, 180, .inl (upd (fun _ => 0) (0 : Int32).toNatClampNeg 0))), (a4, .inl (G.2 0, 180, .inl (upd (upd (fun _ => 0) (0 : Int32).toNatClampNeg 0) (0 : Int32).toNatClampNeg 1)))] := hD
  refine lv_aload_n hx hb d_Co_add_22 rfl (lv_at hl 0 rfl) ?_
  refine va_get (D := G.1) (ci := 1) (v := .ref a3) (C := R_Co) (T := T_Co) (N := 4) hx hb hg in_Co hown hK hP 0 rfl rfl 1 (by decide) (hg _ mw_207) (fun _ h9 => h9) rfl d_Co_add_23 ?_
  refine lv_aload_n hx hb d_Co_add_26 rfl (lv_at hl 0 rfl) ?_
  refine va_get (D := G.1) (ci := 1) (v := .int 1) (C := R_Co) (T := T_Co) (N := 4) hx hb hg in_Co hown hK hP 0 rfl rfl 3 (by decide) (hg _ mw_209) (fun _ h9 => h9) rfl d_Co_add_27 ?_
  refine lv_iload_n hx hb d_Co_add_30 rfl (lv_at hl 2 rfl) ?_
  refine va_iast hx hb hK hP hD hS 2 0 rfl rfl (nb_in rfl) d_Co_add_31 (fun H locs hP hD hS => ?_)
  have hP : va_P G.1 nn_cls [(a1, .inr (1, [.ref a2, .ref a3, .ref a4, .int 1])), (a2, .inl (G.2 0, 180, .inl (upd (upd (fun _ => 0) (0 : Int32).toNatClampNeg 7) (1 : Int32).toNatClampNeg 6))), (a3, .inl (G.2 0, 180, .inl (upd (upd (fun _ => 0) (0 : Int32).toNatClampNeg 0) (1 : Int32).toNatClampNeg 0))), (a4, .inl (G.2 0, 180, .inl (upd (upd (fun _ => 0) (0 : Int32).toNatClampNeg 0) (0 : Int32).toNatClampNeg 1)))] H := hP
  have hD : va_D A [(a1, .inr (1, [.ref a2, .ref a3, .ref a4, .int 1])), (a2, .inl (G.2 0, 180, .inl (upd (upd (fun _ => 0) (0 : Int32).toNatClampNeg 7) (1 : Int32).toNatClampNeg 6))), (a3, .inl (G.2 0, 180, .inl (upd (upd (fun _ => 0) (0 : Int32).toNatClampNeg 0) (1 : Int32).toNatClampNeg 0))), (a4, .inl (G.2 0, 180, .inl (upd (upd (fun _ => 0) (0 : Int32).toNatClampNeg 0) (0 : Int32).toNatClampNeg 1)))] := hD
  refine lv_aload_n hx hb d_Co_add_32 rfl (lv_at hl 0 rfl) ?_
  refine va_get (D := G.1) (ci := 1) (v := .ref a4) (C := R_Co) (T := T_Co) (N := 4) hx hb hg in_Co hown hK hP 0 rfl rfl 2 (by decide) (hg _ mw_208) (fun _ h9 => h9) rfl d_Co_add_33 ?_
  refine lv_aload_n hx hb d_Co_add_36 rfl (lv_at hl 0 rfl) ?_
  refine va_get (D := G.1) (ci := 1) (v := .int 1) (C := R_Co) (T := T_Co) (N := 4) hx hb hg in_Co hown hK hP 0 rfl rfl 3 (by decide) (hg _ mw_209) (fun _ h9 => h9) rfl d_Co_add_37 ?_
  refine lv_iload_n hx hb d_Co_add_40 rfl (lv_at hl 3 rfl) ?_
  refine va_iast hx hb hK hP hD hS 3 0 rfl rfl (nb_in rfl) d_Co_add_41 (fun H locs hP hD hS => ?_)
  have hP : va_P G.1 nn_cls [(a1, .inr (1, [.ref a2, .ref a3, .ref a4, .int 1])), (a2, .inl (G.2 0, 180, .inl (upd (upd (fun _ => 0) (0 : Int32).toNatClampNeg 7) (1 : Int32).toNatClampNeg 6))), (a3, .inl (G.2 0, 180, .inl (upd (upd (fun _ => 0) (0 : Int32).toNatClampNeg 0) (1 : Int32).toNatClampNeg 0))), (a4, .inl (G.2 0, 180, .inl (upd (upd (upd (fun _ => 0) (0 : Int32).toNatClampNeg 0) (0 : Int32).toNatClampNeg 1) (1 : Int32).toNatClampNeg 3)))] H := hP
  have hD : va_D A [(a1, .inr (1, [.ref a2, .ref a3, .ref a4, .int 1])), (a2, .inl (G.2 0, 180, .inl (upd (upd (fun _ => 0) (0 : Int32).toNatClampNeg 7) (1 : Int32).toNatClampNeg 6))), (a3, .inl (G.2 0, 180, .inl (upd (upd (fun _ => 0) (0 : Int32).toNatClampNeg 0) (1 : Int32).toNatClampNeg 0))), (a4, .inl (G.2 0, 180, .inl (upd (upd (upd (fun _ => 0) (0 : Int32).toNatClampNeg 0) (0 : Int32).toNatClampNeg 1) (1 : Int32).toNatClampNeg 3)))] := hD
  refine lv_aload_n hx hb d_Co_add_42 rfl (lv_at hl 0 rfl) ?_
  refine lv_dup hx hb d_Co_add_43 rfl ?_
  refine va_get (D := G.1) (ci := 1) (v := .int 1) (C := R_Co) (T := T_Co) (N := 4) hx hb hg in_Co hown hK hP 0 rfl rfl 3 (by decide) (hg _ mw_209) (fun _ h9 => h9) rfl d_Co_add_44 ?_
  refine lv_iconst (v := 1) hx hb d_Co_add_47 (by decide) ?_
  refine lv_iadd hx hb d_Co_add_48 ?_
  refine nb_top 2 (by decide) ?_
  refine va_put (D := G.1) (ci := 1) (v := .int 2) (ty := .int) (C := R_Co) (T := T_Co) (N := 4) hx hb hg in_Co t_Co ok_Co nm_Co hown hK hP hD hS 0 rfl rfl 3 (by decide) (hg _ mw_209) (fun _ h9 => h9) rfl (by decide +kernel) rfl rfl (Nat.le_of_ble_eq_true rfl) d_Co_add_49 (fun H locs hP hD hS => ?_)
  have hP : va_P G.1 nn_cls [(a1, .inr (1, [.ref a2, .ref a3, .ref a4, .int 2])), (a2, .inl (G.2 0, 180, .inl (upd (upd (fun _ => 0) (0 : Int32).toNatClampNeg 7) (1 : Int32).toNatClampNeg 6))), (a3, .inl (G.2 0, 180, .inl (upd (upd (fun _ => 0) (0 : Int32).toNatClampNeg 0) (1 : Int32).toNatClampNeg 0))), (a4, .inl (G.2 0, 180, .inl (upd (upd (upd (fun _ => 0) (0 : Int32).toNatClampNeg 0) (0 : Int32).toNatClampNeg 1) (1 : Int32).toNatClampNeg 3)))] H := hP
  have hD : va_D A [(a1, .inr (1, [.ref a2, .ref a3, .ref a4, .int 2])), (a2, .inl (G.2 0, 180, .inl (upd (upd (fun _ => 0) (0 : Int32).toNatClampNeg 7) (1 : Int32).toNatClampNeg 6))), (a3, .inl (G.2 0, 180, .inl (upd (upd (fun _ => 0) (0 : Int32).toNatClampNeg 0) (1 : Int32).toNatClampNeg 0))), (a4, .inl (G.2 0, 180, .inl (upd (upd (upd (fun _ => 0) (0 : Int32).toNatClampNeg 0) (0 : Int32).toNatClampNeg 1) (1 : Int32).toNatClampNeg 3)))] := hD
  refine lv_aload_n hx hb d_Co_add_52 rfl (lv_at hl 0 rfl) ?_
  refine va_get (D := G.1) (ci := 1) (v := .int 2) (C := R_Co) (T := T_Co) (N := 4) hx hb hg in_Co hown hK hP 0 rfl rfl 3 (by decide) (hg _ mw_209) (fun _ h9 => h9) rfl d_Co_add_53 ?_
  refine lv_iconst (v := 1) hx hb d_Co_add_56 (by decide) ?_
  refine lv_isub hx hb d_Co_add_57 ?_
  refine nb_top 1 (by decide) ?_
  refine W.widen (k := 0) (n := 0) (Nat.le_of_ble_eq_true rfl) (Nat.le_of_ble_eq_true rfl) ?_
  have hP9 := hP.sub (ws' := [(a1, .inr (1, [.ref a2, .ref a3, .ref a4, .int 2])), (a2, .inl (G.2 0, 180, .inl (upd (upd (fun _ => 0) (0 : Int32).toNatClampNeg 7) (1 : Int32).toNatClampNeg 6))), (a3, .inl (G.2 0, 180, .inl (upd (upd (fun _ => 0) (0 : Int32).toNatClampNeg 0) (1 : Int32).toNatClampNeg 0))), (a4, .inl (G.2 0, 180, .inl (upd (upd (upd (fun _ => 0) (0 : Int32).toNatClampNeg 0) (0 : Int32).toNatClampNeg 1) (1 : Int32).toNatClampNeg 3)))]) [0, 1, 2, 3] rfl
  have hD9 := hD.sub (ws' := [(a1, .inr (1, [.ref a2, .ref a3, .ref a4, .int 2])), (a2, .inl (G.2 0, 180, .inl (upd (upd (fun _ => 0) (0 : Int32).toNatClampNeg 7) (1 : Int32).toNatClampNeg 6))), (a3, .inl (G.2 0, 180, .inl (upd (upd (fun _ => 0) (0 : Int32).toNatClampNeg 0) (1 : Int32).toNatClampNeg 0))), (a4, .inl (G.2 0, 180, .inl (upd (upd (upd (fun _ => 0) (0 : Int32).toNatClampNeg 0) (0 : Int32).toNatClampNeg 1) (1 : Int32).toNatClampNeg 3)))]) [0, 1, 2, 3] (by decide) rfl
  exact W.iret (v := 1) hx hb hr (fun t ht hW => ⟨⟨1, (), rfl, rfl, ⟨by rw [ht]; exact hP9, hD9⟩⟩, hS.F ht⟩) hS.2.2 d_Co_add_58

theorem mw_671 : (.fieldLink R_Cm 94 R_To "BEGIN" "LNestPascal$Token;" : Cond) ∈ nn_gw := nn_at 671 (by decide +kernel) (by decide +kernel)
theorem d_Cm_block_93 : decode b_Cm_block 93 = .ok (.pop, 1) := by decide +kernel
theorem d_Cm_block_94 : decode b_Cm_block 94 = .ok (.aload_n 0, 1) := by decide +kernel
theorem d_Cm_block_95 : decode b_Cm_block 95 = .ok (.getstatic 94, 3) := by decide +kernel
theorem d_Cm_block_98 : decode b_Cm_block 98 = .ok (.invokevirtual 60, 3) := by decide +kernel
theorem d_Cm_expect_0 : decode b_Cm_expect 0 = .ok (.aload_n 0, 1) := by decide +kernel
theorem d_Cm_expect_1 : decode b_Cm_expect 1 = .ok (.getfield 12, 3) := by decide +kernel
theorem d_Cm_expect_4 : decode b_Cm_expect 4 = .ok (.aload_n 1, 1) := by decide +kernel
theorem d_Cm_expect_5 : decode b_Cm_expect 5 = .ok (.invokevirtual 74, 3) := by decide +kernel
theorem d_Cm_expect_8 : decode b_Cm_expect 8 = .ok (.ifCond .ne 15, 3) := by decide +kernel
theorem d_Cm_expect_11 : decode b_Cm_expect 11 = .ok (.aload_n 0, 1) := by decide +kernel
theorem d_Cm_expect_12 : decode b_Cm_expect 12 = .ok (.iconst 1, 1) := by decide +kernel
theorem d_Cm_expect_13 : decode b_Cm_expect 13 = .ok (.aload_n 0, 1) := by decide +kernel
theorem d_Cm_expect_14 : decode b_Cm_expect 14 = .ok (.getfield 12, 3) := by decide +kernel
theorem d_Cm_expect_17 : decode b_Cm_expect 17 = .ok (.invokevirtual 134, 3) := by decide +kernel
theorem d_Ts_place_0 : decode b_Ts_place 0 = .ok (.aload_n 0, 1) := by decide +kernel
theorem d_Ts_place_1 : decode b_Ts_place 1 = .ok (.getfield 17, 3) := by decide +kernel
theorem d_Ts_place_4 : decode b_Ts_place 4 = .ok (.aload_n 0, 1) := by decide +kernel
theorem d_Ts_place_5 : decode b_Ts_place 5 = .ok (.getfield 28, 3) := by decide +kernel
theorem d_Ts_place_8 : decode b_Ts_place 8 = .ok (.iaload, 1) := by decide +kernel
theorem d_Ts_place_9 : decode b_Ts_place 9 = .ok (.ireturn, 1) := by decide +kernel

set_option maxHeartbeats 4000000 in
set_option maxRecDepth 100000 in
theorem a_Ts_place_1 (l : Launch) (G : nn_G) (tk : Nat → Nat) (sz : Nat) (a1 a2 a3 a4 : Nat) : Met l y_Ts_place w_Ts_place ({ frames := 0, cells := 0, slots := 0, locals := 0 }) (ns_P G tk [.ref a1] [(a1, .inr (6, [.ref a2, .ref a3, .ref a4, .int 1, .int 0])), (a2, .inl (G.2 3, 181, .inr (.inr (.inr (.inr (va_up (fun _ => none) (0 : Int32).toNatClampNeg (some (tk 0)))))))), (a3, .inl (G.2 0, 181, .inl (upd (fun _ => 0) (0 : Int32).toNatClampNeg 0))), (a4, .inl (G.2 0, 181, .inl (upd (fun _ => 0) (0 : Int32).toNatClampNeg 0)))] sz) (va_Qi (fun (r : Int32) (u : Unit) => r = 0) (fun u t => va_P G.1 nn_cls [(a1, .inr (6, [.ref a2, .ref a3, .ref a4, .int 1, .int 0])), (a2, .inl (G.2 3, 181, .inr (.inr (.inr (.inr (va_up (fun _ => none) (0 : Int32).toNatClampNeg (some (tk 0)))))))), (a3, .inl (G.2 0, 181, .inl (upd (fun _ => 0) (0 : Int32).toNatClampNeg 0))), (a4, .inl (G.2 0, 181, .inl (upd (fun _ => 0) (0 : Int32).toNatClampNeg 0)))] t.heap ∧ va_D (va_A [(a1, .inr (6, [.ref a2, .ref a3, .ref a4, .int 1, .int 0])), (a2, .inl (G.2 3, 181, .inr (.inr (.inr (.inr (va_up (fun _ => none) (0 : Int32).toNatClampNeg (some (tk 0)))))))), (a3, .inl (G.2 0, 181, .inl (upd (fun _ => 0) (0 : Int32).toNatClampNeg 0))), (a4, .inl (G.2 0, 181, .inl (upd (fun _ => 0) (0 : Int32).toNatClampNeg 0)))] sz) [(a1, .inr (6, [.ref a2, .ref a3, .ref a4, .int 1, .int 0])), (a2, .inl (G.2 3, 181, .inr (.inr (.inr (.inr (va_up (fun _ => none) (0 : Int32).toNatClampNeg (some (tk 0)))))))), (a3, .inl (G.2 0, 181, .inl (upd (fun _ => 0) (0 : Int32).toNatClampNeg 0))), (a4, .inl (G.2 0, 181, .inl (upd (fun _ => 0) (0 : Int32).toNatClampNeg 0)))]) (va_A [(a1, .inr (6, [.ref a2, .ref a3, .ref a4, .int 1, .int 0])), (a2, .inl (G.2 3, 181, .inr (.inr (.inr (.inr (va_up (fun _ => none) (0 : Int32).toNatClampNeg (some (tk 0)))))))), (a3, .inl (G.2 0, 181, .inl (upd (fun _ => 0) (0 : Int32).toNatClampNeg 0))), (a4, .inl (G.2 0, 181, .inl (upd (fun _ => 0) (0 : Int32).toNatClampNeg 0)))] sz)) 0 0 (va_A [(a1, .inr (6, [.ref a2, .ref a3, .ref a4, .int 1, .int 0])), (a2, .inl (G.2 3, 181, .inr (.inr (.inr (.inr (va_up (fun _ => none) (0 : Int32).toNatClampNeg (some (tk 0)))))))), (a3, .inl (G.2 0, 181, .inl (upd (fun _ => 0) (0 : Int32).toNatClampNeg 0))), (a4, .inl (G.2 0, 181, .inl (upd (fun _ => 0) (0 : Int32).toNatClampNeg 0)))] sz) := by
  refine Met.ofW (cc := b_Ts_place) (maxL := 1) (ret := some .int) (by decide) rfl ?_
  intro p e s m args below meth c s₁ B hml hv
  obtain ⟨rfl, ⟨hsz, hP, hK, hD0, hN⟩, hE⟩ := hv
  have hx := B.exec
  have hb := B.bytes
  have hr := B.returns
  have hts := atoms_spec (ws := w_Ts_place) B.pre
  have hg : ∀ w ∈ nn_gw, w.before _ s = true := fun w h => hts w (List.mem_cons_of_mem _ h)
  have hown : s.vm.findClass R_Ts = some m.cls := findClass_of_methodNamed B.named
  have hlocks := B.notSynchronized
  subst hsz
  have hD := hD0.self (sz := s.heap.size)
  generalize hAe : va_A [(a1, .inr (6, [.ref a2, .ref a3, .ref a4, .int 1, .int 0])), (a2, .inl (G.2 3, 181, .inr (.inr (.inr (.inr (va_up (fun _ => none) (0 : Int32).toNatClampNeg (some (tk 0)))))))), (a3, .inl (G.2 0, 181, .inl (upd (fun _ => 0) (0 : Int32).toNatClampNeg 0))), (a4, .inl (G.2 0, 181, .inl (upd (fun _ => 0) (0 : Int32).toNatClampNeg 0)))] s.heap.size = A at hD hE ⊢
  have hA : ∀ q : Nat, s.heap.size ≤ q → A q := fun q h => by rw [← hAe]; exact Or.inr h
  have hS : va_S A s.heap s.heap [] := va_S.rf
  have hP : va_P G.1 nn_cls [(a1, .inr (6, [.ref a2, .ref a3, .ref a4, .int 1, .int 0])), (a2, .inl (G.2 3, 181, .inr (.inr (.inr (.inr (va_up (fun _ => none) (0 : Int32).toNatClampNeg (some (tk 0)))))))), (a3, .inl (G.2 0, 181, .inl (upd (fun _ => 0) (0 : Int32).toNatClampNeg 0))), (a4, .inl (G.2 0, 181, .inl (upd (fun _ => 0) (0 : Int32).toNatClampNeg 0)))] s.heap := hP
  have hP0 := hP
  have hl := lv_entry ([.ref a1]) (n := 1) (Nat.le_of_ble_eq_true rfl)
  rw [lg_entry_eq]
  generalize (lg_sl ([.ref a1]) ++ List.replicate (1 - (lg_sl ([.ref a1])).length) Slot.unset).toArray = ls at hl ⊢
  have hl : lv_has ls 1 [(0, .ref a1)] := hl
  refine lv_aload_n hx hb d_Ts_place_0 rfl (lv_at hl 0 rfl) ?_
  refine va_get (D := G.1) (ci := 6) (v := .ref a3) (C := R_Ts) (T := T_Ts) (N := 5) hx hb hg in_Ts hown hK hP 0 rfl rfl 1 (by decide) (hg _ mw_132) (fun _ h9 => h9) rfl d_Ts_place_1 ?_
  refine lv_aload_n hx hb d_Ts_place_4 rfl (lv_at hl 0 rfl) ?_
  refine va_get (D := G.1) (ci := 6) (v := .int 0) (C := R_Ts) (T := T_Ts) (N := 5) hx hb hg in_Ts hown hK hP 0 rfl rfl 4 (by decide) (hg _ mw_135) (fun _ h9 => h9) rfl d_Ts_place_5 ?_
  refine va_iald hx hb hK hP 2 0 rfl rfl (nb_in rfl) d_Ts_place_8 ?_
  refine nb_top 0 (by decide) ?_
  refine W.widen (k := 0) (n := 0) (Nat.le_of_ble_eq_true rfl) (Nat.le_of_ble_eq_true rfl) ?_
  have hP9 := hP.sub (ws' := [(a1, .inr (6, [.ref a2, .ref a3, .ref a4, .int 1, .int 0])), (a2, .inl (G.2 3, 181, .inr (.inr (.inr (.inr (va_up (fun _ => none) (0 : Int32).toNatClampNeg (some (tk 0)))))))), (a3, .inl (G.2 0, 181, .inl (upd (fun _ => 0) (0 : Int32).toNatClampNeg 0))), (a4, .inl (G.2 0, 181, .inl (upd (fun _ => 0) (0 : Int32).toNatClampNeg 0)))]) [0, 1, 2, 3] rfl
  have hD9 := hD.sub (ws' := [(a1, .inr (6, [.ref a2, .ref a3, .ref a4, .int 1, .int 0])), (a2, .inl (G.2 3, 181, .inr (.inr (.inr (.inr (va_up (fun _ => none) (0 : Int32).toNatClampNeg (some (tk 0)))))))), (a3, .inl (G.2 0, 181, .inl (upd (fun _ => 0) (0 : Int32).toNatClampNeg 0))), (a4, .inl (G.2 0, 181, .inl (upd (fun _ => 0) (0 : Int32).toNatClampNeg 0)))]) [0, 1, 2, 3] (by decide) rfl
  exact W.iret (v := 0) hx hb hr (fun t ht hW => ⟨⟨0, (), rfl, rfl, ⟨by rw [ht]; exact hP9, hD9⟩⟩, hS.F ht⟩) hS.2.2 d_Ts_place_9

theorem mw_105 : (.initialized "java/lang/IllegalArgumentException" : Cond) ∈ nn_gw := nn_at 105 (by decide +kernel) (by decide +kernel)
theorem mw_536 : (.methodLink R_Cm 134 y_Ts_place : Cond) ∈ nn_gw := nn_at 536 (by decide +kernel) (by decide +kernel)
theorem mw_537 : (.instanceMethod y_Ts_place : Cond) ∈ nn_gw := nn_at 537 (by decide +kernel) (by decide +kernel)
theorem mw_538 : (.selects R_Ts y_Ts_place y_Ts_place : Cond) ∈ nn_gw := nn_at 538 (by decide +kernel) (by decide +kernel)
theorem mw_539 : (.code y_Ts_place b_Ts_place 1 (some .int) : Cond) ∈ nn_gw := nn_at 539 (by decide +kernel) (by decide +kernel)
theorem mw_549 : (.classLink R_Cm 298 "java/lang/IllegalArgumentException" : Cond) ∈ nn_gw := nn_at 549 (by decide +kernel) (by decide +kernel)
theorem d_Cm_expect_20 : decode b_Cm_expect 20 = .ok (.invokevirtual 140, 3) := by decide +kernel
theorem d_Cm_fail_0 : decode b_Cm_fail 0 = .ok (.aload_n 0, 1) := by decide +kernel
theorem d_Cm_fail_1 : decode b_Cm_fail 1 = .ok (.iload_n 1, 1) := by decide +kernel
theorem d_Cm_fail_2 : decode b_Cm_fail 2 = .ok (.putfield 36, 3) := by decide +kernel
theorem d_Cm_fail_5 : decode b_Cm_fail 5 = .ok (.aload_n 0, 1) := by decide +kernel
theorem d_Cm_fail_6 : decode b_Cm_fail 6 = .ok (.iload_n 2, 1) := by decide +kernel
theorem d_Cm_fail_7 : decode b_Cm_fail 7 = .ok (.putfield 39, 3) := by decide +kernel
theorem d_Cm_fail_10 : decode b_Cm_fail 10 = .ok (.new 298, 3) := by decide +kernel
theorem d_Cm_fail_13 : decode b_Cm_fail 13 = .ok (.dup, 1) := by decide +kernel
theorem d_Cm_fail_14 : decode b_Cm_fail 14 = .ok (.invokespecial 300, 3) := by decide +kernel
theorem d_Cm_fail_17 : decode b_Cm_fail 17 = .ok (.athrow, 1) := by decide +kernel

set_option maxHeartbeats 4000000 in
set_option maxRecDepth 100000 in
theorem a_Cm_fail_1 (l : Launch) (hfl : l.flags = flags0) (G : nn_G) (tk : Nat → Nat) (sz : Nat) (a1 a2 a3 a4 a5 a6 a7 a8 a9 a10 a11 a12 : Nat) : nt_Met l y_Cm_fail w_Cm_fail ({ frames := 6, cells := 1, slots := 6, locals := 200 }) (ns_P G tk [.ref a1, .int 1, .int 0] [(a1, .inr (2, [.ref a2, .ref a3, .ref a4, .int 0, .int (-1), .int (-1)])), (a2, .inr (6, [.ref a5, .ref a6, .ref a7, .int 1, .int 0])), (a3, .inr (5, [.ref a12, .int 0, .ref a8, .int 0])), (a4, .inr (1, [.ref a9, .ref a10, .ref a11, .int 2])), (a5, .inl (G.2 3, 181, .inr (.inr (.inr (.inr (va_up (fun _ => none) (0 : Int32).toNatClampNeg (some (tk 0)))))))), (a6, .inl (G.2 0, 181, .inl (upd (fun _ => 0) (0 : Int32).toNatClampNeg 0))), (a7, .inl (G.2 0, 181, .inl (upd (fun _ => 0) (0 : Int32).toNatClampNeg 0))), (a8, .inl (G.2 0, 5, .inl (fun _ => 0))), (a9, .inl (G.2 0, 180, .inl (upd (upd (fun _ => 0) (0 : Int32).toNatClampNeg 7) (1 : Int32).toNatClampNeg 6))), (a10, .inl (G.2 0, 180, .inl (upd (upd (fun _ => 0) (0 : Int32).toNatClampNeg 0) (1 : Int32).toNatClampNeg 0))), (a11, .inl (G.2 0, 180, .inl (upd (upd (upd (fun _ => 0) (0 : Int32).toNatClampNeg 0) (0 : Int32).toNatClampNeg 1) (1 : Int32).toNatClampNeg 3)))] sz) 1 6 (va_A [(a1, .inr (2, [.ref a2, .ref a3, .ref a4, .int 0, .int (-1), .int (-1)])), (a2, .inr (6, [.ref a5, .ref a6, .ref a7, .int 1, .int 0])), (a3, .inr (5, [.ref a12, .int 0, .ref a8, .int 0])), (a4, .inr (1, [.ref a9, .ref a10, .ref a11, .int 2])), (a5, .inl (G.2 3, 181, .inr (.inr (.inr (.inr (va_up (fun _ => none) (0 : Int32).toNatClampNeg (some (tk 0)))))))), (a6, .inl (G.2 0, 181, .inl (upd (fun _ => 0) (0 : Int32).toNatClampNeg 0))), (a7, .inl (G.2 0, 181, .inl (upd (fun _ => 0) (0 : Int32).toNatClampNeg 0))), (a8, .inl (G.2 0, 5, .inl (fun _ => 0))), (a9, .inl (G.2 0, 180, .inl (upd (upd (fun _ => 0) (0 : Int32).toNatClampNeg 7) (1 : Int32).toNatClampNeg 6))), (a10, .inl (G.2 0, 180, .inl (upd (upd (fun _ => 0) (0 : Int32).toNatClampNeg 0) (1 : Int32).toNatClampNeg 0))), (a11, .inl (G.2 0, 180, .inl (upd (upd (upd (fun _ => 0) (0 : Int32).toNatClampNeg 0) (0 : Int32).toNatClampNeg 1) (1 : Int32).toNatClampNeg 3)))] sz) := by
  refine nt_ofW (cc := b_Cm_fail) (maxL := 3) (ret := none) (by decide) rfl ?_
  intro p e s m args below meth c s₁ B hml hv
  obtain ⟨rfl, ⟨hsz, hP, hK, hD0, hN⟩, hE⟩ := hv
  have hx := B.exec
  have hb := B.bytes
  have hr := B.returns
  have hts := atoms_spec (ws := w_Cm_fail) B.pre
  have hg : ∀ w ∈ nn_gw, w.before _ s = true := fun w h => hts w (List.mem_cons_of_mem _ h)
  have hown : s.vm.findClass R_Cm = some m.cls := findClass_of_methodNamed B.named
  have hlocks := B.notSynchronized
  have hnh : c.exceptionTable.isEmpty = true := B.noHandlers (hts _ List.mem_cons_self)
  subst hsz
  have hD := hD0.self (sz := s.heap.size)
  generalize hAe : va_A [(a1, .inr (2, [.ref a2, .ref a3, .ref a4, .int 0, .int (-1), .int (-1)])), (a2, .inr (6, [.ref a5, .ref a6, .ref a7, .int 1, .int 0])), (a3, .inr (5, [.ref a12, .int 0, .ref a8, .int 0])), (a4, .inr (1, [.ref a9, .ref a10, .ref a11, .int 2])), (a5, .inl (G.2 3, 181, .inr (.inr (.inr (.inr (va_up (fun _ => none) (0 : Int32).toNatClampNeg (some (tk 0)))))))), (a6, .inl (G.2 0, 181, .inl (upd (fun _ => 0) (0 : Int32).toNatClampNeg 0))), (a7, .inl (G.2 0, 181, .inl (upd (fun _ => 0) (0 : Int32).toNatClampNeg 0))), (a8, .inl (G.2 0, 5, .inl (fun _ => 0))), (a9, .inl (G.2 0, 180, .inl (upd (upd (fun _ => 0) (0 : Int32).toNatClampNeg 7) (1 : Int32).toNatClampNeg 6))), (a10, .inl (G.2 0, 180, .inl (upd (upd (fun _ => 0) (0 : Int32).toNatClampNeg 0) (1 : Int32).toNatClampNeg 0))), (a11, .inl (G.2 0, 180, .inl (upd (upd (upd (fun _ => 0) (0 : Int32).toNatClampNeg 0) (0 : Int32).toNatClampNeg 1) (1 : Int32).toNatClampNeg 3)))] s.heap.size = A at hD hE ⊢
  have hA : ∀ q : Nat, s.heap.size ≤ q → A q := fun q h => by rw [← hAe]; exact Or.inr h
  have hS : va_S A s.heap s.heap [] := va_S.rf
  have hP : va_P G.1 nn_cls [(a1, .inr (2, [.ref a2, .ref a3, .ref a4, .int 0, .int (-1), .int (-1)])), (a2, .inr (6, [.ref a5, .ref a6, .ref a7, .int 1, .int 0])), (a3, .inr (5, [.ref a12, .int 0, .ref a8, .int 0])), (a4, .inr (1, [.ref a9, .ref a10, .ref a11, .int 2])), (a5, .inl (G.2 3, 181, .inr (.inr (.inr (.inr (va_up (fun _ => none) (0 : Int32).toNatClampNeg (some (tk 0)))))))), (a6, .inl (G.2 0, 181, .inl (upd (fun _ => 0) (0 : Int32).toNatClampNeg 0))), (a7, .inl (G.2 0, 181, .inl (upd (fun _ => 0) (0 : Int32).toNatClampNeg 0))), (a8, .inl (G.2 0, 5, .inl (fun _ => 0))), (a9, .inl (G.2 0, 180, .inl (upd (upd (fun _ => 0) (0 : Int32).toNatClampNeg 7) (1 : Int32).toNatClampNeg 6))), (a10, .inl (G.2 0, 180, .inl (upd (upd (fun _ => 0) (0 : Int32).toNatClampNeg 0) (1 : Int32).toNatClampNeg 0))), (a11, .inl (G.2 0, 180, .inl (upd (upd (upd (fun _ => 0) (0 : Int32).toNatClampNeg 0) (0 : Int32).toNatClampNeg 1) (1 : Int32).toNatClampNeg 3)))] s.heap := hP
  have hP0 := hP
  have hl := lv_entry ([.ref a1, .int 1, .int 0]) (n := 3) (Nat.le_of_ble_eq_true rfl)
  rw [lg_entry_eq]
  generalize (lg_sl ([.ref a1, .int 1, .int 0]) ++ List.replicate (3 - (lg_sl ([.ref a1, .int 1, .int 0])).length) Slot.unset).toArray = ls at hl ⊢
  have hl : lv_has ls 3 [(0, .ref a1), (1, .int 1), (2, .int 0)] := hl
  refine lv_aload_n hx hb d_Cm_fail_0 rfl (lv_at hl 0 rfl) ?_
  refine lv_iload_n hx hb d_Cm_fail_1 rfl (lv_at hl 1 rfl) ?_
  refine va_put (D := G.1) (ci := 2) (v := .int 1) (ty := .int) (C := R_Cm) (T := T_Cm) (N := 6) hx hb hg in_Cm t_Cm ok_Cm nm_Cm hown hK hP hD hS 0 rfl rfl 4 (by decide) (hg _ mw_223) (fun _ h9 => h9) rfl (by decide +kernel) rfl rfl (Nat.le_of_ble_eq_true rfl) d_Cm_fail_2 (fun H locs hP hD hS => ?_)
  have hP : va_P G.1 nn_cls [(a1, .inr (2, [.ref a2, .ref a3, .ref a4, .int 0, .int 1, .int (-1)])), (a2, .inr (6, [.ref a5, .ref a6, .ref a7, .int 1, .int 0])), (a3, .inr (5, [.ref a12, .int 0, .ref a8, .int 0])), (a4, .inr (1, [.ref a9, .ref a10, .ref a11, .int 2])), (a5, .inl (G.2 3, 181, .inr (.inr (.inr (.inr (va_up (fun _ => none) (0 : Int32).toNatClampNeg (some (tk 0)))))))), (a6, .inl (G.2 0, 181, .inl (upd (fun _ => 0) (0 : Int32).toNatClampNeg 0))), (a7, .inl (G.2 0, 181, .inl (upd (fun _ => 0) (0 : Int32).toNatClampNeg 0))), (a8, .inl (G.2 0, 5, .inl (fun _ => 0))), (a9, .inl (G.2 0, 180, .inl (upd (upd (fun _ => 0) (0 : Int32).toNatClampNeg 7) (1 : Int32).toNatClampNeg 6))), (a10, .inl (G.2 0, 180, .inl (upd (upd (fun _ => 0) (0 : Int32).toNatClampNeg 0) (1 : Int32).toNatClampNeg 0))), (a11, .inl (G.2 0, 180, .inl (upd (upd (upd (fun _ => 0) (0 : Int32).toNatClampNeg 0) (0 : Int32).toNatClampNeg 1) (1 : Int32).toNatClampNeg 3)))] H := hP
  have hD : va_D A [(a1, .inr (2, [.ref a2, .ref a3, .ref a4, .int 0, .int 1, .int (-1)])), (a2, .inr (6, [.ref a5, .ref a6, .ref a7, .int 1, .int 0])), (a3, .inr (5, [.ref a12, .int 0, .ref a8, .int 0])), (a4, .inr (1, [.ref a9, .ref a10, .ref a11, .int 2])), (a5, .inl (G.2 3, 181, .inr (.inr (.inr (.inr (va_up (fun _ => none) (0 : Int32).toNatClampNeg (some (tk 0)))))))), (a6, .inl (G.2 0, 181, .inl (upd (fun _ => 0) (0 : Int32).toNatClampNeg 0))), (a7, .inl (G.2 0, 181, .inl (upd (fun _ => 0) (0 : Int32).toNatClampNeg 0))), (a8, .inl (G.2 0, 5, .inl (fun _ => 0))), (a9, .inl (G.2 0, 180, .inl (upd (upd (fun _ => 0) (0 : Int32).toNatClampNeg 7) (1 : Int32).toNatClampNeg 6))), (a10, .inl (G.2 0, 180, .inl (upd (upd (fun _ => 0) (0 : Int32).toNatClampNeg 0) (1 : Int32).toNatClampNeg 0))), (a11, .inl (G.2 0, 180, .inl (upd (upd (upd (fun _ => 0) (0 : Int32).toNatClampNeg 0) (0 : Int32).toNatClampNeg 1) (1 : Int32).toNatClampNeg 3)))] := hD
  refine lv_aload_n hx hb d_Cm_fail_5 rfl (lv_at hl 0 rfl) ?_
  refine lv_iload_n hx hb d_Cm_fail_6 rfl (lv_at hl 2 rfl) ?_
  refine va_put (D := G.1) (ci := 2) (v := .int 0) (ty := .int) (C := R_Cm) (T := T_Cm) (N := 6) hx hb hg in_Cm t_Cm ok_Cm nm_Cm hown hK hP hD hS 0 rfl rfl 5 (by decide) (hg _ mw_224) (fun _ h9 => h9) rfl (by decide +kernel) rfl rfl (Nat.le_of_ble_eq_true rfl) d_Cm_fail_7 (fun H locs hP hD hS => ?_)
  have hP : va_P G.1 nn_cls [(a1, .inr (2, [.ref a2, .ref a3, .ref a4, .int 0, .int 1, .int 0])), (a2, .inr (6, [.ref a5, .ref a6, .ref a7, .int 1, .int 0])), (a3, .inr (5, [.ref a12, .int 0, .ref a8, .int 0])), (a4, .inr (1, [.ref a9, .ref a10, .ref a11, .int 2])), (a5, .inl (G.2 3, 181, .inr (.inr (.inr (.inr (va_up (fun _ => none) (0 : Int32).toNatClampNeg (some (tk 0)))))))), (a6, .inl (G.2 0, 181, .inl (upd (fun _ => 0) (0 : Int32).toNatClampNeg 0))), (a7, .inl (G.2 0, 181, .inl (upd (fun _ => 0) (0 : Int32).toNatClampNeg 0))), (a8, .inl (G.2 0, 5, .inl (fun _ => 0))), (a9, .inl (G.2 0, 180, .inl (upd (upd (fun _ => 0) (0 : Int32).toNatClampNeg 7) (1 : Int32).toNatClampNeg 6))), (a10, .inl (G.2 0, 180, .inl (upd (upd (fun _ => 0) (0 : Int32).toNatClampNeg 0) (1 : Int32).toNatClampNeg 0))), (a11, .inl (G.2 0, 180, .inl (upd (upd (upd (fun _ => 0) (0 : Int32).toNatClampNeg 0) (0 : Int32).toNatClampNeg 1) (1 : Int32).toNatClampNeg 3)))] H := hP
  have hD : va_D A [(a1, .inr (2, [.ref a2, .ref a3, .ref a4, .int 0, .int 1, .int 0])), (a2, .inr (6, [.ref a5, .ref a6, .ref a7, .int 1, .int 0])), (a3, .inr (5, [.ref a12, .int 0, .ref a8, .int 0])), (a4, .inr (1, [.ref a9, .ref a10, .ref a11, .int 2])), (a5, .inl (G.2 3, 181, .inr (.inr (.inr (.inr (va_up (fun _ => none) (0 : Int32).toNatClampNeg (some (tk 0)))))))), (a6, .inl (G.2 0, 181, .inl (upd (fun _ => 0) (0 : Int32).toNatClampNeg 0))), (a7, .inl (G.2 0, 181, .inl (upd (fun _ => 0) (0 : Int32).toNatClampNeg 0))), (a8, .inl (G.2 0, 5, .inl (fun _ => 0))), (a9, .inl (G.2 0, 180, .inl (upd (upd (fun _ => 0) (0 : Int32).toNatClampNeg 7) (1 : Int32).toNatClampNeg 6))), (a10, .inl (G.2 0, 180, .inl (upd (upd (fun _ => 0) (0 : Int32).toNatClampNeg 0) (1 : Int32).toNatClampNeg 0))), (a11, .inl (G.2 0, 180, .inl (upd (upd (upd (fun _ => 0) (0 : Int32).toNatClampNeg 0) (0 : Int32).toNatClampNeg 1) (1 : Int32).toNatClampNeg 3)))] := hD
  exact nt_throw (nL := 3) hx hb hml hl.1 hfl hown (hg _ mw_549) (hg _ mw_105) (ns_own1 hg hE) (ns_st hP0 hAe hS.2.2) hS.1 d_Cm_fail_10 d_Cm_fail_13 d_Cm_fail_14 d_Cm_fail_17 (by decide) (by decide) (Nat.le_of_ble_eq_true rfl) (Nat.le_of_ble_eq_true rfl) hnh hlocks hS.2.2

theorem mw_11 : (.selects R_Cm y_Cm_fail y_Cm_fail : Cond) ∈ nn_gw := nn_at 11 (by decide +kernel) (by decide +kernel)
theorem mw_545 : (.methodLink R_Cm 140 y_Cm_fail : Cond) ∈ nn_gw := nn_at 545 (by decide +kernel) (by decide +kernel)
theorem mw_547 : (.instanceMethod y_Cm_fail : Cond) ∈ nn_gw := nn_at 547 (by decide +kernel) (by decide +kernel)
theorem mw_548 : (.code y_Cm_fail b_Cm_fail 3 none : Cond) ∈ nn_gw := nn_at 548 (by decide +kernel) (by decide +kernel)

set_option maxHeartbeats 4000000 in
set_option maxRecDepth 100000 in
theorem a_Cm_expect_1 (l : Launch) (hfl : l.flags = flags0) (G : nn_G) (tk : Nat → Nat) (sz : Nat) (a1 a2 a3 a4 a5 a6 a7 a8 a9 a10 a11 a12 : Nat) : nt_Met l y_Cm_expect w_Cm_expect ({ frames := 7, cells := 1, slots := 6, locals := 222 }) (ns_P G tk [.ref a1, .ref (tk 3)] [(a1, .inr (2, [.ref a2, .ref a3, .ref a4, .int 0, .int (-1), .int (-1)])), (a2, .inr (6, [.ref a5, .ref a6, .ref a7, .int 1, .int 0])), (a3, .inr (5, [.ref a12, .int 0, .ref a8, .int 0])), (a4, .inr (1, [.ref a9, .ref a10, .ref a11, .int 2])), (a5, .inl (G.2 3, 181, .inr (.inr (.inr (.inr (va_up (fun _ => none) (0 : Int32).toNatClampNeg (some (tk 0)))))))), (a6, .inl (G.2 0, 181, .inl (upd (fun _ => 0) (0 : Int32).toNatClampNeg 0))), (a7, .inl (G.2 0, 181, .inl (upd (fun _ => 0) (0 : Int32).toNatClampNeg 0))), (a8, .inl (G.2 0, 5, .inl (fun _ => 0))), (a9, .inl (G.2 0, 180, .inl (upd (upd (fun _ => 0) (0 : Int32).toNatClampNeg 7) (1 : Int32).toNatClampNeg 6))), (a10, .inl (G.2 0, 180, .inl (upd (upd (fun _ => 0) (0 : Int32).toNatClampNeg 0) (1 : Int32).toNatClampNeg 0))), (a11, .inl (G.2 0, 180, .inl (upd (upd (upd (fun _ => 0) (0 : Int32).toNatClampNeg 0) (0 : Int32).toNatClampNeg 1) (1 : Int32).toNatClampNeg 3)))] sz) 1 6 (va_A [(a1, .inr (2, [.ref a2, .ref a3, .ref a4, .int 0, .int (-1), .int (-1)])), (a2, .inr (6, [.ref a5, .ref a6, .ref a7, .int 1, .int 0])), (a3, .inr (5, [.ref a12, .int 0, .ref a8, .int 0])), (a4, .inr (1, [.ref a9, .ref a10, .ref a11, .int 2])), (a5, .inl (G.2 3, 181, .inr (.inr (.inr (.inr (va_up (fun _ => none) (0 : Int32).toNatClampNeg (some (tk 0)))))))), (a6, .inl (G.2 0, 181, .inl (upd (fun _ => 0) (0 : Int32).toNatClampNeg 0))), (a7, .inl (G.2 0, 181, .inl (upd (fun _ => 0) (0 : Int32).toNatClampNeg 0))), (a8, .inl (G.2 0, 5, .inl (fun _ => 0))), (a9, .inl (G.2 0, 180, .inl (upd (upd (fun _ => 0) (0 : Int32).toNatClampNeg 7) (1 : Int32).toNatClampNeg 6))), (a10, .inl (G.2 0, 180, .inl (upd (upd (fun _ => 0) (0 : Int32).toNatClampNeg 0) (1 : Int32).toNatClampNeg 0))), (a11, .inl (G.2 0, 180, .inl (upd (upd (upd (fun _ => 0) (0 : Int32).toNatClampNeg 0) (0 : Int32).toNatClampNeg 1) (1 : Int32).toNatClampNeg 3)))] sz) := by
  refine nt_ofW (cc := b_Cm_expect) (maxL := 2) (ret := none) (by decide) rfl ?_
  intro p e s m args below meth c s₁ B hml hv
  obtain ⟨rfl, ⟨hsz, hP, hK, hD0, hN⟩, hE⟩ := hv
  have hx := B.exec
  have hb := B.bytes
  have hr := B.returns
  have hts := atoms_spec (ws := w_Cm_expect) B.pre
  have hg : ∀ w ∈ nn_gw, w.before _ s = true := fun w h => hts w (List.mem_cons_of_mem _ h)
  have hown : s.vm.findClass R_Cm = some m.cls := findClass_of_methodNamed B.named
  have hlocks := B.notSynchronized
  have hnh : c.exceptionTable.isEmpty = true := B.noHandlers (hts _ List.mem_cons_self)
  subst hsz
  have hD := hD0.self (sz := s.heap.size)
  generalize hAe : va_A [(a1, .inr (2, [.ref a2, .ref a3, .ref a4, .int 0, .int (-1), .int (-1)])), (a2, .inr (6, [.ref a5, .ref a6, .ref a7, .int 1, .int 0])), (a3, .inr (5, [.ref a12, .int 0, .ref a8, .int 0])), (a4, .inr (1, [.ref a9, .ref a10, .ref a11, .int 2])), (a5, .inl (G.2 3, 181, .inr (.inr (.inr (.inr (va_up (fun _ => none) (0 : Int32).toNatClampNeg (some (tk 0)))))))), (a6, .inl (G.2 0, 181, .inl (upd (fun _ => 0) (0 : Int32).toNatClampNeg 0))), (a7, .inl (G.2 0, 181, .inl (upd (fun _ => 0) (0 : Int32).toNatClampNeg 0))), (a8, .inl (G.2 0, 5, .inl (fun _ => 0))), (a9, .inl (G.2 0, 180, .inl (upd (upd (fun _ => 0) (0 : Int32).toNatClampNeg 7) (1 : Int32).toNatClampNeg 6))), (a10, .inl (G.2 0, 180, .inl (upd (upd (fun _ => 0) (0 : Int32).toNatClampNeg 0) (1 : Int32).toNatClampNeg 0))), (a11, .inl (G.2 0, 180, .inl (upd (upd (upd (fun _ => 0) (0 : Int32).toNatClampNeg 0) (0 : Int32).toNatClampNeg 1) (1 : Int32).toNatClampNeg 3)))] s.heap.size = A at hD hE ⊢
  have hA : ∀ q : Nat, s.heap.size ≤ q → A q := fun q h => by rw [← hAe]; exact Or.inr h
  have hS : va_S A s.heap s.heap [] := va_S.rf
  have hP : va_P G.1 nn_cls [(a1, .inr (2, [.ref a2, .ref a3, .ref a4, .int 0, .int (-1), .int (-1)])), (a2, .inr (6, [.ref a5, .ref a6, .ref a7, .int 1, .int 0])), (a3, .inr (5, [.ref a12, .int 0, .ref a8, .int 0])), (a4, .inr (1, [.ref a9, .ref a10, .ref a11, .int 2])), (a5, .inl (G.2 3, 181, .inr (.inr (.inr (.inr (va_up (fun _ => none) (0 : Int32).toNatClampNeg (some (tk 0)))))))), (a6, .inl (G.2 0, 181, .inl (upd (fun _ => 0) (0 : Int32).toNatClampNeg 0))), (a7, .inl (G.2 0, 181, .inl (upd (fun _ => 0) (0 : Int32).toNatClampNeg 0))), (a8, .inl (G.2 0, 5, .inl (fun _ => 0))), (a9, .inl (G.2 0, 180, .inl (upd (upd (fun _ => 0) (0 : Int32).toNatClampNeg 7) (1 : Int32).toNatClampNeg 6))), (a10, .inl (G.2 0, 180, .inl (upd (upd (fun _ => 0) (0 : Int32).toNatClampNeg 0) (1 : Int32).toNatClampNeg 0))), (a11, .inl (G.2 0, 180, .inl (upd (upd (upd (fun _ => 0) (0 : Int32).toNatClampNeg 0) (0 : Int32).toNatClampNeg 1) (1 : Int32).toNatClampNeg 3)))] s.heap := hP
  have hP0 := hP
  have hl := lv_entry ([.ref a1, .ref (tk 3)]) (n := 2) (Nat.le_of_ble_eq_true rfl)
  rw [lg_entry_eq]
  generalize (lg_sl ([.ref a1, .ref (tk 3)]) ++ List.replicate (2 - (lg_sl ([.ref a1, .ref (tk 3)])).length) Slot.unset).toArray = ls at hl ⊢
  have hl : lv_has ls 2 [(0, .ref a1), (1, .ref (tk 3))] := hl
  refine lv_aload_n hx hb d_Cm_expect_0 rfl (lv_at hl 0 rfl) ?_
  refine va_get (D := G.1) (ci := 2) (v := .ref a2) (C := R_Cm) (T := T_Cm) (N := 6) hx hb hg in_Cm hown hK hP 0 rfl rfl 0 (by decide) (hg _ mw_219) (fun _ h9 => h9) rfl d_Cm_expect_1 ?_
  refine lv_aload_n hx hb d_Cm_expect_4 rfl (lv_at hl 1 rfl) ?_
  have hPc := hP.sub (ws' := [(a2, .inr (6, [.ref a5, .ref a6, .ref a7, .int 1, .int 0])), (a5, .inl (G.2 3, 181, .inr (.inr (.inr (.inr (va_up (fun _ => none) (0 : Int32).toNatClampNeg (some (tk 0))))))))]) [1, 4] rfl
  have hDc := hD.sub (ws' := [(a2, .inr (6, [.ref a5, .ref a6, .ref a7, .int 1, .int 0])), (a5, .inl (G.2 3, 181, .inr (.inr (.inr (.inr (va_up (fun _ => none) (0 : Int32).toNatClampNeg (some (tk 0))))))))]) [1, 4] (by decide) rfl
  refine vp_callSi (va_Run.run (va_runV (As := [.ref (tk 3)]) (rest := []) ⟨hx, hb, hml, hown, hts⟩ (c_Ts_isAt l G _ a2 a5 a6 a7 (tk 0) (tk 3) hE.2.2.2.2.2.1.2.2) (cwV 1 hts (nn_gV mw_515 mw_512 mw_513 mw_514 mw_89) rfl rfl rfl (by decide +kernel) ⟨Nat.le_of_ble_eq_true rfl, Nat.le_of_ble_eq_true rfl⟩) (nn_preV (va_recv hK hP rfl (q0 := 1) rfl) hPc hDc hK hN) rfl rfl hl.1 rfl (lv_room (Nat.le_of_ble_eq_true rfl)) d_Cm_expect_5 ⟨(Nat.le_of_ble_eq_true rfl), (Nat.le_of_ble_eq_true rfl)⟩)) (fun r1 er1 => ?_)
  subst er1
  refine lv_if_ne (tgt := 23) hx hb d_Cm_expect_8 rfl (fun h => absurd (by decide) h) (fun _ => ?_)
  refine lv_aload_n hx hb d_Cm_expect_11 rfl (lv_at hl 0 rfl) ?_
  refine lv_iconst (v := 1) hx hb d_Cm_expect_12 (by decide) ?_
  refine lv_aload_n hx hb d_Cm_expect_13 rfl (lv_at hl 0 rfl) ?_
  refine va_get (D := G.1) (ci := 2) (v := .ref a2) (C := R_Cm) (T := T_Cm) (N := 6) hx hb hg in_Cm hown hK hP 0 rfl rfl 0 (by decide) (hg _ mw_219) (fun _ h9 => h9) rfl d_Cm_expect_14 ?_
  have hPc := hP.sub (ws' := [(a2, .inr (6, [.ref a5, .ref a6, .ref a7, .int 1, .int 0])), (a5, .inl (G.2 3, 181, .inr (.inr (.inr (.inr (va_up (fun _ => none) (0 : Int32).toNatClampNeg (some (tk 0)))))))), (a6, .inl (G.2 0, 181, .inl (upd (fun _ => 0) (0 : Int32).toNatClampNeg 0))), (a7, .inl (G.2 0, 181, .inl (upd (fun _ => 0) (0 : Int32).toNatClampNeg 0)))]) [1, 4, 5, 6] rfl
  have hDc := hD.sub (ws' := [(a2, .inr (6, [.ref a5, .ref a6, .ref a7, .int 1, .int 0])), (a5, .inl (G.2 3, 181, .inr (.inr (.inr (.inr (va_up (fun _ => none) (0 : Int32).toNatClampNeg (some (tk 0)))))))), (a6, .inl (G.2 0, 181, .inl (upd (fun _ => 0) (0 : Int32).toNatClampNeg 0))), (a7, .inl (G.2 0, 181, .inl (upd (fun _ => 0) (0 : Int32).toNatClampNeg 0)))]) [1, 4, 5, 6] (by decide) rfl
  have hFc := va_free (wc := [(a2, .inr (6, [.ref a5, .ref a6, .ref a7, .int 1, .int 0])), (a5, .inl (G.2 3, 181, .inr (.inr (.inr (.inr (va_up (fun _ => none) (0 : Int32).toNatClampNeg (some (tk 0)))))))), (a6, .inl (G.2 0, 181, .inl (upd (fun _ => 0) (0 : Int32).toNatClampNeg 0))), (a7, .inl (G.2 0, 181, .inl (upd (fun _ => 0) (0 : Int32).toNatClampNeg 0)))]) hD hS hA [1, 4, 5, 6] rfl
  have hFc := va_free (wc := [(a2, .inr (6, [.ref a5, .ref a6, .ref a7, .int 1, .int 0])), (a5, .inl (G.2 3, 181, .inr (.inr (.inr (.inr (va_up (fun _ => none) (0 : Int32).toNatClampNeg (some (tk 0)))))))), (a6, .inl (G.2 0, 181, .inl (upd (fun _ => 0) (0 : Int32).toNatClampNeg 0))), (a7, .inl (G.2 0, 181, .inl (upd (fun _ => 0) (0 : Int32).toNatClampNeg 0)))]) hD hS hA [1, 4, 5, 6] rfl
  refine va_calli (va_runV (As := []) (rest := [.int 1, .ref a1]) ⟨hx, hb, hml, hown, hts⟩ (a_Ts_place_1 l G tk _ a2 a5 a6 a7) (cwV 0 hts (nn_gV mw_539 mw_536 mw_537 mw_538 mw_89) rfl rfl rfl (by decide +kernel) ⟨Nat.le_of_ble_eq_true rfl, Nat.le_of_ble_eq_true rfl⟩) (ns_preV (va_recv hK hP rfl (q0 := 1) rfl) hPc hDc hK hN hE hS hFc) rfl rfl hl.1 rfl (lv_room (Nat.le_of_ble_eq_true rfl)) d_Cm_expect_17 ⟨(Nat.le_of_ble_eq_true rfl), (Nat.le_of_ble_eq_true rfl)⟩) hS (fun q _ h => hFc q h) hFc (fun r3 u2 t H locs ht hvm hw hB hz1 hk1 hS => ?_)
  obtain rfl : r3 = 0 := hw
  obtain ⟨hP1, hD1⟩ := hB
  rw [ht] at hP1
  obtain ⟨hP, hD⟩ := va_join (wr := [(a1, .inr (2, [.ref a2, .ref a3, .ref a4, .int 0, .int (-1), .int (-1)])), (a3, .inr (5, [.ref a12, .int 0, .ref a8, .int 0])), (a4, .inr (1, [.ref a9, .ref a10, .ref a11, .int 2])), (a8, .inl (G.2 0, 5, .inl (fun _ => 0))), (a9, .inl (G.2 0, 180, .inl (upd (upd (fun _ => 0) (0 : Int32).toNatClampNeg 7) (1 : Int32).toNatClampNeg 6))), (a10, .inl (G.2 0, 180, .inl (upd (upd (fun _ => 0) (0 : Int32).toNatClampNeg 0) (1 : Int32).toNatClampNeg 0))), (a11, .inl (G.2 0, 180, .inl (upd (upd (upd (fun _ => 0) (0 : Int32).toNatClampNeg 0) (0 : Int32).toNatClampNeg 1) (1 : Int32).toNatClampNeg 3)))]) (w1 := [(a2, .inr (6, [.ref a5, .ref a6, .ref a7, .int 1, .int 0])), (a5, .inl (G.2 3, 181, .inr (.inr (.inr (.inr (va_up (fun _ => none) (0 : Int32).toNatClampNeg (some (tk 0)))))))), (a6, .inl (G.2 0, 181, .inl (upd (fun _ => 0) (0 : Int32).toNatClampNeg 0))), (a7, .inl (G.2 0, 181, .inl (upd (fun _ => 0) (0 : Int32).toNatClampNeg 0)))]) hP hD [1, 4, 5, 6] [0, 2, 3, 7, 8, 9, 10] rfl rfl (by decide) (by decide) hk1 hFc hP1 hD1
  have hP : va_P G.1 nn_cls [(a1, .inr (2, [.ref a2, .ref a3, .ref a4, .int 0, .int (-1), .int (-1)])), (a3, .inr (5, [.ref a12, .int 0, .ref a8, .int 0])), (a4, .inr (1, [.ref a9, .ref a10, .ref a11, .int 2])), (a8, .inl (G.2 0, 5, .inl (fun _ => 0))), (a9, .inl (G.2 0, 180, .inl (upd (upd (fun _ => 0) (0 : Int32).toNatClampNeg 7) (1 : Int32).toNatClampNeg 6))), (a10, .inl (G.2 0, 180, .inl (upd (upd (fun _ => 0) (0 : Int32).toNatClampNeg 0) (1 : Int32).toNatClampNeg 0))), (a11, .inl (G.2 0, 180, .inl (upd (upd (upd (fun _ => 0) (0 : Int32).toNatClampNeg 0) (0 : Int32).toNatClampNeg 1) (1 : Int32).toNatClampNeg 3))), (a2, .inr (6, [.ref a5, .ref a6, .ref a7, .int 1, .int 0])), (a5, .inl (G.2 3, 181, .inr (.inr (.inr (.inr (va_up (fun _ => none) (0 : Int32).toNatClampNeg (some (tk 0)))))))), (a6, .inl (G.2 0, 181, .inl (upd (fun _ => 0) (0 : Int32).toNatClampNeg 0))), (a7, .inl (G.2 0, 181, .inl (upd (fun _ => 0) (0 : Int32).toNatClampNeg 0)))] H := hP
  have hD : va_D A [(a1, .inr (2, [.ref a2, .ref a3, .ref a4, .int 0, .int (-1), .int (-1)])), (a3, .inr (5, [.ref a12, .int 0, .ref a8, .int 0])), (a4, .inr (1, [.ref a9, .ref a10, .ref a11, .int 2])), (a8, .inl (G.2 0, 5, .inl (fun _ => 0))), (a9, .inl (G.2 0, 180, .inl (upd (upd (fun _ => 0) (0 : Int32).toNatClampNeg 7) (1 : Int32).toNatClampNeg 6))), (a10, .inl (G.2 0, 180, .inl (upd (upd (fun _ => 0) (0 : Int32).toNatClampNeg 0) (1 : Int32).toNatClampNeg 0))), (a11, .inl (G.2 0, 180, .inl (upd (upd (upd (fun _ => 0) (0 : Int32).toNatClampNeg 0) (0 : Int32).toNatClampNeg 1) (1 : Int32).toNatClampNeg 3))), (a2, .inr (6, [.ref a5, .ref a6, .ref a7, .int 1, .int 0])), (a5, .inl (G.2 3, 181, .inr (.inr (.inr (.inr (va_up (fun _ => none) (0 : Int32).toNatClampNeg (some (tk 0)))))))), (a6, .inl (G.2 0, 181, .inl (upd (fun _ => 0) (0 : Int32).toNatClampNeg 0))), (a7, .inl (G.2 0, 181, .inl (upd (fun _ => 0) (0 : Int32).toNatClampNeg 0)))] := hD
  refine W.widen (k := 0) (n := 0) (Nat.le_of_ble_eq_true rfl) (Nat.le_of_ble_eq_true rfl) ?_
  have hPc := hP.sub (ws' := [(a1, .inr (2, [.ref a2, .ref a3, .ref a4, .int 0, .int (-1), .int (-1)])), (a2, .inr (6, [.ref a5, .ref a6, .ref a7, .int 1, .int 0])), (a3, .inr (5, [.ref a12, .int 0, .ref a8, .int 0])), (a4, .inr (1, [.ref a9, .ref a10, .ref a11, .int 2])), (a5, .inl (G.2 3, 181, .inr (.inr (.inr (.inr (va_up (fun _ => none) (0 : Int32).toNatClampNeg (some (tk 0)))))))), (a6, .inl (G.2 0, 181, .inl (upd (fun _ => 0) (0 : Int32).toNatClampNeg 0))), (a7, .inl (G.2 0, 181, .inl (upd (fun _ => 0) (0 : Int32).toNatClampNeg 0))), (a8, .inl (G.2 0, 5, .inl (fun _ => 0))), (a9, .inl (G.2 0, 180, .inl (upd (upd (fun _ => 0) (0 : Int32).toNatClampNeg 7) (1 : Int32).toNatClampNeg 6))), (a10, .inl (G.2 0, 180, .inl (upd (upd (fun _ => 0) (0 : Int32).toNatClampNeg 0) (1 : Int32).toNatClampNeg 0))), (a11, .inl (G.2 0, 180, .inl (upd (upd (upd (fun _ => 0) (0 : Int32).toNatClampNeg 0) (0 : Int32).toNatClampNeg 1) (1 : Int32).toNatClampNeg 3)))]) [0, 7, 1, 2, 8, 9, 10, 3, 4, 5, 6] rfl
  have hDc := hD.sub (ws' := [(a1, .inr (2, [.ref a2, .ref a3, .ref a4, .int 0, .int (-1), .int (-1)])), (a2, .inr (6, [.ref a5, .ref a6, .ref a7, .int 1, .int 0])), (a3, .inr (5, [.ref a12, .int 0, .ref a8, .int 0])), (a4, .inr (1, [.ref a9, .ref a10, .ref a11, .int 2])), (a5, .inl (G.2 3, 181, .inr (.inr (.inr (.inr (va_up (fun _ => none) (0 : Int32).toNatClampNeg (some (tk 0)))))))), (a6, .inl (G.2 0, 181, .inl (upd (fun _ => 0) (0 : Int32).toNatClampNeg 0))), (a7, .inl (G.2 0, 181, .inl (upd (fun _ => 0) (0 : Int32).toNatClampNeg 0))), (a8, .inl (G.2 0, 5, .inl (fun _ => 0))), (a9, .inl (G.2 0, 180, .inl (upd (upd (fun _ => 0) (0 : Int32).toNatClampNeg 7) (1 : Int32).toNatClampNeg 6))), (a10, .inl (G.2 0, 180, .inl (upd (upd (fun _ => 0) (0 : Int32).toNatClampNeg 0) (1 : Int32).toNatClampNeg 0))), (a11, .inl (G.2 0, 180, .inl (upd (upd (upd (fun _ => 0) (0 : Int32).toNatClampNeg 0) (0 : Int32).toNatClampNeg 1) (1 : Int32).toNatClampNeg 3)))]) [0, 7, 1, 2, 8, 9, 10, 3, 4, 5, 6] (by decide) rfl
  have hFc := va_free (wc := [(a1, .inr (2, [.ref a2, .ref a3, .ref a4, .int 0, .int (-1), .int (-1)])), (a2, .inr (6, [.ref a5, .ref a6, .ref a7, .int 1, .int 0])), (a3, .inr (5, [.ref a12, .int 0, .ref a8, .int 0])), (a4, .inr (1, [.ref a9, .ref a10, .ref a11, .int 2])), (a5, .inl (G.2 3, 181, .inr (.inr (.inr (.inr (va_up (fun _ => none) (0 : Int32).toNatClampNeg (some (tk 0)))))))), (a6, .inl (G.2 0, 181, .inl (upd (fun _ => 0) (0 : Int32).toNatClampNeg 0))), (a7, .inl (G.2 0, 181, .inl (upd (fun _ => 0) (0 : Int32).toNatClampNeg 0))), (a8, .inl (G.2 0, 5, .inl (fun _ => 0))), (a9, .inl (G.2 0, 180, .inl (upd (upd (fun _ => 0) (0 : Int32).toNatClampNeg 7) (1 : Int32).toNatClampNeg 6))), (a10, .inl (G.2 0, 180, .inl (upd (upd (fun _ => 0) (0 : Int32).toNatClampNeg 0) (1 : Int32).toNatClampNeg 0))), (a11, .inl (G.2 0, 180, .inl (upd (upd (upd (fun _ => 0) (0 : Int32).toNatClampNeg 0) (0 : Int32).toNatClampNeg 1) (1 : Int32).toNatClampNeg 3)))]) hD hS hA [0, 7, 1, 2, 8, 9, 10, 3, 4, 5, 6] rfl
  exact nt_propV (As := [.int 1, .int 0]) (rest := []) ⟨hx, hb, hml, hown, hts⟩ (a_Cm_fail_1 l hfl G tk _ a1 a2 a3 a4 a5 a6 a7 a8 a9 a10 a11 a12) (cwV 2 hts (nn_gV mw_548 mw_545 mw_547 mw_11 mw_88) rfl rfl rfl (by decide +kernel) ⟨Nat.le_of_ble_eq_true rfl, Nat.le_of_ble_eq_true rfl⟩) (ns_preV (va_recv hK hP rfl (q0 := 0) rfl) hPc hDc hK hN hE hS hFc) rfl hl.1 rfl (lv_room (Nat.le_of_ble_eq_true rfl)) d_Cm_expect_20 ⟨Nat.le_of_ble_eq_true rfl, Nat.le_of_ble_eq_true rfl⟩ hnh hlocks hS.2.2 hFc

theorem mw_10 : (.selects R_Cm y_Cm_expect y_Cm_expect : Cond) ∈ nn_gw := nn_at 10 (by decide +kernel) (by decide +kernel)
theorem mw_541 : (.methodLink R_Cm 60 y_Cm_expect : Cond) ∈ nn_gw := nn_at 541 (by decide +kernel) (by decide +kernel)
theorem mw_543 : (.instanceMethod y_Cm_expect : Cond) ∈ nn_gw := nn_at 543 (by decide +kernel) (by decide +kernel)
theorem mw_544 : (.code y_Cm_expect b_Cm_expect 2 none : Cond) ∈ nn_gw := nn_at 544 (by decide +kernel) (by decide +kernel)

set_option maxHeartbeats 4000000 in
set_option maxRecDepth 100000 in
theorem a_Cm_block_1 (l : Launch) (hfl : l.flags = flags0) (G : nn_G) (tk : Nat → Nat) (sz : Nat) (a1 a2 a3 a4 a5 a6 a7 a8 a9 a10 a11 a12 : Nat) : nt_Met l y_Cm_block w_Cm_block ({ frames := 8, cells := 1, slots := 6, locals := 243 }) (ns_P G tk [.ref a1, .int 0] [(a1, .inr (2, [.ref a2, .ref a3, .ref a4, .int 0, .int (-1), .int (-1)])), (a2, .inr (6, [.ref a5, .ref a6, .ref a7, .int 1, .int 0])), (a3, .inr (5, [.ref a12, .int 0, .ref a8, .int 0])), (a4, .inr (1, [.ref a9, .ref a10, .ref a11, .int 0])), (a5, .inl (G.2 3, 181, .inr (.inr (.inr (.inr (va_up (fun _ => none) (0 : Int32).toNatClampNeg (some (tk 0)))))))), (a6, .inl (G.2 0, 181, .inl (upd (fun _ => 0) (0 : Int32).toNatClampNeg 0))), (a7, .inl (G.2 0, 181, .inl (upd (fun _ => 0) (0 : Int32).toNatClampNeg 0))), (a8, .inl (G.2 0, 5, .inl (fun _ => 0))), (a9, .inl (G.2 0, 180, .inl (fun _ => 0))), (a10, .inl (G.2 0, 180, .inl (fun _ => 0))), (a11, .inl (G.2 0, 180, .inl (fun _ => 0)))] sz) 1 6 (va_A [(a1, .inr (2, [.ref a2, .ref a3, .ref a4, .int 0, .int (-1), .int (-1)])), (a2, .inr (6, [.ref a5, .ref a6, .ref a7, .int 1, .int 0])), (a3, .inr (5, [.ref a12, .int 0, .ref a8, .int 0])), (a4, .inr (1, [.ref a9, .ref a10, .ref a11, .int 0])), (a5, .inl (G.2 3, 181, .inr (.inr (.inr (.inr (va_up (fun _ => none) (0 : Int32).toNatClampNeg (some (tk 0)))))))), (a6, .inl (G.2 0, 181, .inl (upd (fun _ => 0) (0 : Int32).toNatClampNeg 0))), (a7, .inl (G.2 0, 181, .inl (upd (fun _ => 0) (0 : Int32).toNatClampNeg 0))), (a8, .inl (G.2 0, 5, .inl (fun _ => 0))), (a9, .inl (G.2 0, 180, .inl (fun _ => 0))), (a10, .inl (G.2 0, 180, .inl (fun _ => 0))), (a11, .inl (G.2 0, 180, .inl (fun _ => 0)))] sz) := by
  refine nt_ofW (cc := b_Cm_block) (maxL := 5) (ret := none) (by decide) rfl ?_
  intro p e s m args below meth c s₁ B hml hv
  obtain ⟨rfl, ⟨hsz, hP, hK, hD0, hN⟩, hE⟩ := hv
  have hx := B.exec
  have hb := B.bytes
  have hr := B.returns
  have hts := atoms_spec (ws := w_Cm_block) B.pre
  have hg : ∀ w ∈ nn_gw, w.before _ s = true := fun w h => hts w (List.mem_cons_of_mem _ h)
  have hown : s.vm.findClass R_Cm = some m.cls := findClass_of_methodNamed B.named
  have hlocks := B.notSynchronized
  have hnh : c.exceptionTable.isEmpty = true := B.noHandlers (hts _ List.mem_cons_self)
  subst hsz
  have hD := hD0.self (sz := s.heap.size)
  generalize hAe : va_A [(a1, .inr (2, [.ref a2, .ref a3, .ref a4, .int 0, .int (-1), .int (-1)])), (a2, .inr (6, [.ref a5, .ref a6, .ref a7, .int 1, .int 0])), (a3, .inr (5, [.ref a12, .int 0, .ref a8, .int 0])), (a4, .inr (1, [.ref a9, .ref a10, .ref a11, .int 0])), (a5, .inl (G.2 3, 181, .inr (.inr (.inr (.inr (va_up (fun _ => none) (0 : Int32).toNatClampNeg (some (tk 0)))))))), (a6, .inl (G.2 0, 181, .inl (upd (fun _ => 0) (0 : Int32).toNatClampNeg 0))), (a7, .inl (G.2 0, 181, .inl (upd (fun _ => 0) (0 : Int32).toNatClampNeg 0))), (a8, .inl (G.2 0, 5, .inl (fun _ => 0))), (a9, .inl (G.2 0, 180, .inl (fun _ => 0))), (a10, .inl (G.2 0, 180, .inl (fun _ => 0))), (a11, .inl (G.2 0, 180, .inl (fun _ => 0)))] s.heap.size = A at hD hE ⊢
  have hA : ∀ q : Nat, s.heap.size ≤ q → A q := fun q h => by rw [← hAe]; exact Or.inr h
  have hS : va_S A s.heap s.heap [] := va_S.rf
  have hP : va_P G.1 nn_cls [(a1, .inr (2, [.ref a2, .ref a3, .ref a4, .int 0, .int (-1), .int (-1)])), (a2, .inr (6, [.ref a5, .ref a6, .ref a7, .int 1, .int 0])), (a3, .inr (5, [.ref a12, .int 0, .ref a8, .int 0])), (a4, .inr (1, [.ref a9, .ref a10, .ref a11, .int 0])), (a5, .inl (G.2 3, 181, .inr (.inr (.inr (.inr (va_up (fun _ => none) (0 : Int32).toNatClampNeg (some (tk 0)))))))), (a6, .inl (G.2 0, 181, .inl (upd (fun _ => 0) (0 : Int32).toNatClampNeg 0))), (a7, .inl (G.2 0, 181, .inl (upd (fun _ => 0) (0 : Int32).toNatClampNeg 0))), (a8, .inl (G.2 0, 5, .inl (fun _ => 0))), (a9, .inl (G.2 0, 180, .inl (fun _ => 0))), (a10, .inl (G.2 0, 180, .inl (fun _ => 0))), (a11, .inl (G.2 0, 180, .inl (fun _ => 0)))] s.heap := hP
  have hP0 := hP
  have hl := lv_entry ([.ref a1, .int 0]) (n := 5) (Nat.le_of_ble_eq_true rfl)
  rw [lg_entry_eq]
  generalize (lg_sl ([.ref a1, .int 0]) ++ List.replicate (5 - (lg_sl ([.ref a1, .int 0])).length) Slot.unset).toArray = ls at hl ⊢
  have hl : lv_has ls 5 [(0, .ref a1), (1, .int 0)] := hl
  refine lv_aload_n hx hb d_Cm_block_0 rfl (lv_at hl 0 rfl) ?_
  refine va_get (D := G.1) (ci := 2) (v := .ref a4) (C := R_Cm) (T := T_Cm) (N := 6) hx hb hg in_Cm hown hK hP 0 rfl rfl 2 (by decide) (hg _ mw_221) (fun _ h9 => h9) rfl d_Cm_block_1 ?_
  refine lv_bipush (v := 7) hx hb d_Cm_block_4 (by decide) ?_
  refine lv_iconst (v := 0) hx hb d_Cm_block_6 (by decide) ?_
  refine lv_iconst (v := 0) hx hb d_Cm_block_7 (by decide) ?_
  have hPc := hP.sub (ws' := [(a4, .inr (1, [.ref a9, .ref a10, .ref a11, .int 0])), (a9, .inl (G.2 0, 180, .inl (fun _ => 0))), (a10, .inl (G.2 0, 180, .inl (fun _ => 0))), (a11, .inl (G.2 0, 180, .inl (fun _ => 0)))]) [3, 8, 9, 10] rfl
  have hDc := hD.sub (ws' := [(a4, .inr (1, [.ref a9, .ref a10, .ref a11, .int 0])), (a9, .inl (G.2 0, 180, .inl (fun _ => 0))), (a10, .inl (G.2 0, 180, .inl (fun _ => 0))), (a11, .inl (G.2 0, 180, .inl (fun _ => 0)))]) [3, 8, 9, 10] (by decide) rfl
  have hFc := va_free (wc := [(a4, .inr (1, [.ref a9, .ref a10, .ref a11, .int 0])), (a9, .inl (G.2 0, 180, .inl (fun _ => 0))), (a10, .inl (G.2 0, 180, .inl (fun _ => 0))), (a11, .inl (G.2 0, 180, .inl (fun _ => 0)))]) hD hS hA [3, 8, 9, 10] rfl
  refine va_calli (va_runV (As := [.int 7, .int 0, .int 0]) (rest := []) ⟨hx, hb, hml, hown, hts⟩ (a_Co_add_1 l G _ a4 a9 a10 a11) (cwV 3 hts (nn_gV mw_509 mw_506 mw_507 mw_508 mw_92) rfl rfl rfl (by decide +kernel) ⟨Nat.le_of_ble_eq_true rfl, Nat.le_of_ble_eq_true rfl⟩) (nn_preV (va_recv hK hP rfl (q0 := 3) rfl) hPc hDc hK hN) rfl rfl hl.1 rfl (lv_room (Nat.le_of_ble_eq_true rfl)) d_Cm_block_8 ⟨(Nat.le_of_ble_eq_true rfl), (Nat.le_of_ble_eq_true rfl)⟩) hS (fun q _ h => hFc q h) hFc (fun r2 u1 t H locs ht hvm hw hB hz1 hk1 hS => ?_)
  obtain rfl : r2 = 0 := hw
  obtain ⟨hP1, hD1⟩ := hB
  rw [ht] at hP1
  obtain ⟨hP, hD⟩ := va_join (wr := [(a1, .inr (2, [.ref a2, .ref a3, .ref a4, .int 0, .int (-1), .int (-1)])), (a2, .inr (6, [.ref a5, .ref a6, .ref a7, .int 1, .int 0])), (a3, .inr (5, [.ref a12, .int 0, .ref a8, .int 0])), (a5, .inl (G.2 3, 181, .inr (.inr (.inr (.inr (va_up (fun _ => none) (0 : Int32).toNatClampNeg (some (tk 0)))))))), (a6, .inl (G.2 0, 181, .inl (upd (fun _ => 0) (0 : Int32).toNatClampNeg 0))), (a7, .inl (G.2 0, 181, .inl (upd (fun _ => 0) (0 : Int32).toNatClampNeg 0))), (a8, .inl (G.2 0, 5, .inl (fun _ => 0)))]) (w1 := [(a4, .inr (1, [.ref a9, .ref a10, .ref a11, .int 1])), (a9, .inl (G.2 0, 180, .inl (upd (fun _ => 0) (0 : Int32).toNatClampNeg 7))), (a10, .inl (G.2 0, 180, .inl (upd (fun _ => 0) (0 : Int32).toNatClampNeg 0))), (a11, .inl (G.2 0, 180, .inl (upd (fun _ => 0) (0 : Int32).toNatClampNeg 0)))]) hP hD [3, 8, 9, 10] [0, 1, 2, 4, 5, 6, 7] rfl rfl (by decide) (by decide) hk1 hFc hP1 hD1
  have hP : va_P G.1 nn_cls [(a1, .inr (2, [.ref a2, .ref a3, .ref a4, .int 0, .int (-1), .int (-1)])), (a2, .inr (6, [.ref a5, .ref a6, .ref a7, .int 1, .int 0])), (a3, .inr (5, [.ref a12, .int 0, .ref a8, .int 0])), (a5, .inl (G.2 3, 181, .inr (.inr (.inr (.inr (va_up (fun _ => none) (0 : Int32).toNatClampNeg (some (tk 0)))))))), (a6, .inl (G.2 0, 181, .inl (upd (fun _ => 0) (0 : Int32).toNatClampNeg 0))), (a7, .inl (G.2 0, 181, .inl (upd (fun _ => 0) (0 : Int32).toNatClampNeg 0))), (a8, .inl (G.2 0, 5, .inl (fun _ => 0))), (a4, .inr (1, [.ref a9, .ref a10, .ref a11, .int 1])), (a9, .inl (G.2 0, 180, .inl (upd (fun _ => 0) (0 : Int32).toNatClampNeg 7))), (a10, .inl (G.2 0, 180, .inl (upd (fun _ => 0) (0 : Int32).toNatClampNeg 0))), (a11, .inl (G.2 0, 180, .inl (upd (fun _ => 0) (0 : Int32).toNatClampNeg 0)))] H := hP
  have hD : va_D A [(a1, .inr (2, [.ref a2, .ref a3, .ref a4, .int 0, .int (-1), .int (-1)])), (a2, .inr (6, [.ref a5, .ref a6, .ref a7, .int 1, .int 0])), (a3, .inr (5, [.ref a12, .int 0, .ref a8, .int 0])), (a5, .inl (G.2 3, 181, .inr (.inr (.inr (.inr (va_up (fun _ => none) (0 : Int32).toNatClampNeg (some (tk 0)))))))), (a6, .inl (G.2 0, 181, .inl (upd (fun _ => 0) (0 : Int32).toNatClampNeg 0))), (a7, .inl (G.2 0, 181, .inl (upd (fun _ => 0) (0 : Int32).toNatClampNeg 0))), (a8, .inl (G.2 0, 5, .inl (fun _ => 0))), (a4, .inr (1, [.ref a9, .ref a10, .ref a11, .int 1])), (a9, .inl (G.2 0, 180, .inl (upd (fun _ => 0) (0 : Int32).toNatClampNeg 7))), (a10, .inl (G.2 0, 180, .inl (upd (fun _ => 0) (0 : Int32).toNatClampNeg 0))), (a11, .inl (G.2 0, 180, .inl (upd (fun _ => 0) (0 : Int32).toNatClampNeg 0)))] := hD
  refine W.widen (k := 0) (n := 0) (Nat.le_of_ble_eq_true rfl) (Nat.le_of_ble_eq_true rfl) ?_
  refine lv_istore_n (lv' := [(2, .int 0), (0, .ref a1), (1, .int 0)]) hx hb d_Cm_block_11 rfl hl (by decide) rfl (fun ls hl => ?_)
  refine lv_iconst (v := 3) hx hb d_Cm_block_12 (by decide) ?_
  refine lv_istore_n (lv' := [(3, .int 3), (2, .int 0), (0, .ref a1), (1, .int 0)]) hx hb d_Cm_block_13 rfl hl (by decide) rfl (fun ls hl => ?_)
  refine lv_aload_n hx hb d_Cm_block_14 rfl (lv_at hl 2 rfl) ?_
  refine va_get (D := G.1) (ci := 2) (v := .ref a2) (C := R_Cm) (T := T_Cm) (N := 6) hx hb hg in_Cm hown hK hP 0 rfl rfl 0 (by decide) (hg _ mw_219) (fun _ h9 => h9) rfl d_Cm_block_15 ?_
  refine va_gets hx hb hE.2.1 hS hown (hg _ mw_510) (fun _ h9 => h9) d_Cm_block_18 ?_
  have hPc := hP.sub (ws' := [(a2, .inr (6, [.ref a5, .ref a6, .ref a7, .int 1, .int 0])), (a5, .inl (G.2 3, 181, .inr (.inr (.inr (.inr (va_up (fun _ => none) (0 : Int32).toNatClampNeg (some (tk 0))))))))]) [1, 3] rfl
  have hDc := hD.sub (ws' := [(a2, .inr (6, [.ref a5, .ref a6, .ref a7, .int 1, .int 0])), (a5, .inl (G.2 3, 181, .inr (.inr (.inr (.inr (va_up (fun _ => none) (0 : Int32).toNatClampNeg (some (tk 0))))))))]) [1, 3] (by decide) rfl
  refine vp_callSi (va_Run.run (va_runV (As := [.ref (tk 1)]) (rest := []) ⟨hx, hb, hml, hown, hts⟩ (c_Ts_isAt l G _ a2 a5 a6 a7 (tk 0) (tk 1) hE.2.2.2.2.2.1.1) (cwV 1 hts (nn_gV mw_515 mw_512 mw_513 mw_514 mw_89) rfl rfl rfl (by decide +kernel) ⟨Nat.le_of_ble_eq_true rfl, Nat.le_of_ble_eq_true rfl⟩) (nn_preV (va_recv hK hP rfl (q0 := 1) rfl) hPc hDc hK hN) rfl rfl hl.1 rfl (lv_room (Nat.le_of_ble_eq_true rfl)) d_Cm_block_21 ⟨(Nat.le_of_ble_eq_true rfl), (Nat.le_of_ble_eq_true rfl)⟩)) (fun r3 er3 => ?_)
  subst er3
  refine lv_if_eq (tgt := 40) hx hb d_Cm_block_24 rfl (fun _ => ?_) (fun h => absurd (by decide) h)
  refine lv_iconst (v := 0) hx hb d_Cm_block_40 (by decide) ?_
  refine lv_istore (lv' := [(4, .int 0), (3, .int 3), (2, .int 0), (0, .ref a1), (1, .int 0)]) hx hb d_Cm_block_41 hl (by decide) rfl (fun ls hl => ?_)
  refine lv_iload hx hb d_Cm_block_43 (lv_at hl 0 rfl) ?_
  refine lv_sipush (v := 180) hx hb d_Cm_block_45 (by decide) ?_
  refine lv_icmp_ge (tgt := 74) hx hb d_Cm_block_48 rfl (fun h => absurd h (by decide)) (fun _ => ?_)
  refine lv_aload_n hx hb d_Cm_block_51 rfl (lv_at hl 3 rfl) ?_
  refine va_get (D := G.1) (ci := 2) (v := .ref a2) (C := R_Cm) (T := T_Cm) (N := 6) hx hb hg in_Cm hown hK hP 0 rfl rfl 0 (by decide) (hg _ mw_219) (fun _ h9 => h9) rfl d_Cm_block_52 ?_
  refine va_gets hx hb hE.2.2.1 hS hown (hg _ mw_634) (fun _ h9 => h9) d_Cm_block_55 ?_
  have hPc := hP.sub (ws' := [(a2, .inr (6, [.ref a5, .ref a6, .ref a7, .int 1, .int 0])), (a5, .inl (G.2 3, 181, .inr (.inr (.inr (.inr (va_up (fun _ => none) (0 : Int32).toNatClampNeg (some (tk 0))))))))]) [1, 3] rfl
  have hDc := hD.sub (ws' := [(a2, .inr (6, [.ref a5, .ref a6, .ref a7, .int 1, .int 0])), (a5, .inl (G.2 3, 181, .inr (.inr (.inr (.inr (va_up (fun _ => none) (0 : Int32).toNatClampNeg (some (tk 0))))))))]) [1, 3] (by decide) rfl
  refine vp_callSi (va_Run.run (va_runV (As := [.ref (tk 2)]) (rest := []) ⟨hx, hb, hml, hown, hts⟩ (c_Ts_isAt l G _ a2 a5 a6 a7 (tk 0) (tk 2) hE.2.2.2.2.2.1.2.1) (cwV 1 hts (nn_gV mw_515 mw_512 mw_513 mw_514 mw_89) rfl rfl rfl (by decide +kernel) ⟨Nat.le_of_ble_eq_true rfl, Nat.le_of_ble_eq_true rfl⟩) (nn_preV (va_recv hK hP rfl (q0 := 1) rfl) hPc hDc hK hN) rfl rfl hl.1 rfl (lv_room (Nat.le_of_ble_eq_true rfl)) d_Cm_block_58 ⟨(Nat.le_of_ble_eq_true rfl), (Nat.le_of_ble_eq_true rfl)⟩)) (fun r4 er4 => ?_)
  subst er4
  refine lv_if_eq (tgt := 74) hx hb d_Cm_block_61 rfl (fun _ => ?_) (fun h => absurd (by decide) h)
  refine lv_aload_n hx hb d_Cm_block_74 rfl (lv_at hl 3 rfl) ?_
  refine va_get (D := G.1) (ci := 2) (v := .ref a4) (C := R_Cm) (T := T_Cm) (N := 6) hx hb hg in_Cm hown hK hP 0 rfl rfl 2 (by decide) (hg _ mw_221) (fun _ h9 => h9) rfl d_Cm_block_75 ?_
  refine lv_iload_n hx hb d_Cm_block_78 rfl (lv_at hl 2 rfl) ?_
  have hPc := hP.sub (ws' := [(a4, .inr (1, [.ref a9, .ref a10, .ref a11, .int 1])), (a9, .inl (G.2 0, 180, .inl (upd (fun _ => 0) (0 : Int32).toNatClampNeg 7))), (a10, .inl (G.2 0, 180, .inl (upd (fun _ => 0) (0 : Int32).toNatClampNeg 0))), (a11, .inl (G.2 0, 180, .inl (upd (fun _ => 0) (0 : Int32).toNatClampNeg 0)))]) [7, 8, 9, 10] rfl
  have hDc := hD.sub (ws' := [(a4, .inr (1, [.ref a9, .ref a10, .ref a11, .int 1])), (a9, .inl (G.2 0, 180, .inl (upd (fun _ => 0) (0 : Int32).toNatClampNeg 7))), (a10, .inl (G.2 0, 180, .inl (upd (fun _ => 0) (0 : Int32).toNatClampNeg 0))), (a11, .inl (G.2 0, 180, .inl (upd (fun _ => 0) (0 : Int32).toNatClampNeg 0)))]) [7, 8, 9, 10] (by decide) rfl
  have hFc := va_free (wc := [(a4, .inr (1, [.ref a9, .ref a10, .ref a11, .int 1])), (a9, .inl (G.2 0, 180, .inl (upd (fun _ => 0) (0 : Int32).toNatClampNeg 7))), (a10, .inl (G.2 0, 180, .inl (upd (fun _ => 0) (0 : Int32).toNatClampNeg 0))), (a11, .inl (G.2 0, 180, .inl (upd (fun _ => 0) (0 : Int32).toNatClampNeg 0)))]) hD hS hA [7, 8, 9, 10] rfl
  refine va_callv (va_runV (As := [.int 0]) (rest := []) ⟨hx, hb, hml, hown, hts⟩ (a_Co_leadHere_1 l G _ a4 a9 a10 a11) (cwV 1 hts (nn_gV mw_670 mw_667 mw_668 mw_669 mw_92) rfl rfl rfl (by decide +kernel) ⟨Nat.le_of_ble_eq_true rfl, Nat.le_of_ble_eq_true rfl⟩) (nn_preV (va_recv hK hP rfl (q0 := 7) rfl) hPc hDc hK hN) rfl rfl hl.1 rfl (lv_room (Nat.le_of_ble_eq_true rfl)) d_Cm_block_79 ⟨(Nat.le_of_ble_eq_true rfl), (Nat.le_of_ble_eq_true rfl)⟩) hS (fun q _ h => hFc q h) hFc (fun u5 t H locs ht hvm hw hB hz1 hk1 hS => ?_)
  obtain ⟨hP1, hD1⟩ := hB
  rw [ht] at hP1
  obtain ⟨hP, hD⟩ := va_join (wr := [(a1, .inr (2, [.ref a2, .ref a3, .ref a4, .int 0, .int (-1), .int (-1)])), (a2, .inr (6, [.ref a5, .ref a6, .ref a7, .int 1, .int 0])), (a3, .inr (5, [.ref a12, .int 0, .ref a8, .int 0])), (a5, .inl (G.2 3, 181, .inr (.inr (.inr (.inr (va_up (fun _ => none) (0 : Int32).toNatClampNeg (some (tk 0)))))))), (a6, .inl (G.2 0, 181, .inl (upd (fun _ => 0) (0 : Int32).toNatClampNeg 0))), (a7, .inl (G.2 0, 181, .inl (upd (fun _ => 0) (0 : Int32).toNatClampNeg 0))), (a8, .inl (G.2 0, 5, .inl (fun _ => 0)))]) (w1 := [(a4, .inr (1, [.ref a9, .ref a10, .ref a11, .int 1])), (a9, .inl (G.2 0, 180, .inl (upd (fun _ => 0) (0 : Int32).toNatClampNeg 7))), (a10, .inl (G.2 0, 180, .inl (upd (fun _ => 0) (0 : Int32).toNatClampNeg 0))), (a11, .inl (G.2 0, 180, .inl (upd (upd (fun _ => 0) (0 : Int32).toNatClampNeg 0) (0 : Int32).toNatClampNeg 1)))]) hP hD [7, 8, 9, 10] [0, 1, 2, 3, 4, 5, 6] rfl rfl (by decide) (by decide) hk1 hFc hP1 hD1
  have hP : va_P G.1 nn_cls [(a1, .inr (2, [.ref a2, .ref a3, .ref a4, .int 0, .int (-1), .int (-1)])), (a2, .inr (6, [.ref a5, .ref a6, .ref a7, .int 1, .int 0])), (a3, .inr (5, [.ref a12, .int 0, .ref a8, .int 0])), (a5, .inl (G.2 3, 181, .inr (.inr (.inr (.inr (va_up (fun _ => none) (0 : Int32).toNatClampNeg (some (tk 0)))))))), (a6, .inl (G.2 0, 181, .inl (upd (fun _ => 0) (0 : Int32).toNatClampNeg 0))), (a7, .inl (G.2 0, 181, .inl (upd (fun _ => 0) (0 : Int32).toNatClampNeg 0))), (a8, .inl (G.2 0, 5, .inl (fun _ => 0))), (a4, .inr (1, [.ref a9, .ref a10, .ref a11, .int 1])), (a9, .inl (G.2 0, 180, .inl (upd (fun _ => 0) (0 : Int32).toNatClampNeg 7))), (a10, .inl (G.2 0, 180, .inl (upd (fun _ => 0) (0 : Int32).toNatClampNeg 0))), (a11, .inl (G.2 0, 180, .inl (upd (upd (fun _ => 0) (0 : Int32).toNatClampNeg 0) (0 : Int32).toNatClampNeg 1)))] H := hP
  have hD : va_D A [(a1, .inr (2, [.ref a2, .ref a3, .ref a4, .int 0, .int (-1), .int (-1)])), (a2, .inr (6, [.ref a5, .ref a6, .ref a7, .int 1, .int 0])), (a3, .inr (5, [.ref a12, .int 0, .ref a8, .int 0])), (a5, .inl (G.2 3, 181, .inr (.inr (.inr (.inr (va_up (fun _ => none) (0 : Int32).toNatClampNeg (some (tk 0)))))))), (a6, .inl (G.2 0, 181, .inl (upd (fun _ => 0) (0 : Int32).toNatClampNeg 0))), (a7, .inl (G.2 0, 181, .inl (upd (fun _ => 0) (0 : Int32).toNatClampNeg 0))), (a8, .inl (G.2 0, 5, .inl (fun _ => 0))), (a4, .inr (1, [.ref a9, .ref a10, .ref a11, .int 1])), (a9, .inl (G.2 0, 180, .inl (upd (fun _ => 0) (0 : Int32).toNatClampNeg 7))), (a10, .inl (G.2 0, 180, .inl (upd (fun _ => 0) (0 : Int32).toNatClampNeg 0))), (a11, .inl (G.2 0, 180, .inl (upd (upd (fun _ => 0) (0 : Int32).toNatClampNeg 0) (0 : Int32).toNatClampNeg 1)))] := hD
  refine W.widen (k := 0) (n := 0) (Nat.le_of_ble_eq_true rfl) (Nat.le_of_ble_eq_true rfl) ?_
  refine lv_aload_n hx hb d_Cm_block_82 rfl (lv_at hl 3 rfl) ?_
  refine va_get (D := G.1) (ci := 2) (v := .ref a4) (C := R_Cm) (T := T_Cm) (N := 6) hx hb hg in_Cm hown hK hP 0 rfl rfl 2 (by decide) (hg _ mw_221) (fun _ h9 => h9) rfl d_Cm_block_83 ?_
  refine lv_bipush (v := 6) hx hb d_Cm_block_86 (by decide) ?_
  refine lv_iconst (v := 0) hx hb d_Cm_block_88 (by decide) ?_
  refine lv_iload_n hx hb d_Cm_block_89 rfl (lv_at hl 1 rfl) ?_
  have hPc := hP.sub (ws' := [(a4, .inr (1, [.ref a9, .ref a10, .ref a11, .int 1])), (a9, .inl (G.2 0, 180, .inl (upd (fun _ => 0) (0 : Int32).toNatClampNeg 7))), (a10, .inl (G.2 0, 180, .inl (upd (fun _ => 0) (0 : Int32).toNatClampNeg 0))), (a11, .inl (G.2 0, 180, .inl (upd (upd (fun _ => 0) (0 : Int32).toNatClampNeg 0) (0 : Int32).toNatClampNeg 1)))]) [7, 8, 9, 10] rfl
  have hDc := hD.sub (ws' := [(a4, .inr (1, [.ref a9, .ref a10, .ref a11, .int 1])), (a9, .inl (G.2 0, 180, .inl (upd (fun _ => 0) (0 : Int32).toNatClampNeg 7))), (a10, .inl (G.2 0, 180, .inl (upd (fun _ => 0) (0 : Int32).toNatClampNeg 0))), (a11, .inl (G.2 0, 180, .inl (upd (upd (fun _ => 0) (0 : Int32).toNatClampNeg 0) (0 : Int32).toNatClampNeg 1)))]) [7, 8, 9, 10] (by decide) rfl
  have hFc := va_free (wc := [(a4, .inr (1, [.ref a9, .ref a10, .ref a11, .int 1])), (a9, .inl (G.2 0, 180, .inl (upd (fun _ => 0) (0 : Int32).toNatClampNeg 7))), (a10, .inl (G.2 0, 180, .inl (upd (fun _ => 0) (0 : Int32).toNatClampNeg 0))), (a11, .inl (G.2 0, 180, .inl (upd (upd (fun _ => 0) (0 : Int32).toNatClampNeg 0) (0 : Int32).toNatClampNeg 1)))]) hD hS hA [7, 8, 9, 10] rfl
  refine va_calli (va_runV (As := [.int 6, .int 0, .int 3]) (rest := []) ⟨hx, hb, hml, hown, hts⟩ (a_Co_add_2 l G _ a4 a9 a10 a11) (cwV 3 hts (nn_gV mw_509 mw_506 mw_507 mw_508 mw_92) rfl rfl rfl (by decide +kernel) ⟨Nat.le_of_ble_eq_true rfl, Nat.le_of_ble_eq_true rfl⟩) (nn_preV (va_recv hK hP rfl (q0 := 7) rfl) hPc hDc hK hN) rfl rfl hl.1 rfl (lv_room (Nat.le_of_ble_eq_true rfl)) d_Cm_block_90 ⟨(Nat.le_of_ble_eq_true rfl), (Nat.le_of_ble_eq_true rfl)⟩) hS (fun q _ h => hFc q h) hFc (fun r7 u6 t H locs ht hvm hw hB hz1 hk1 hS => ?_)
  obtain rfl : r7 = 1 := hw
  obtain ⟨hP1, hD1⟩ := hB
  rw [ht] at hP1
  obtain ⟨hP, hD⟩ := va_join (wr := [(a1, .inr (2, [.ref a2, .ref a3, .ref a4, .int 0, .int (-1), .int (-1)])), (a2, .inr (6, [.ref a5, .ref a6, .ref a7, .int 1, .int 0])), (a3, .inr (5, [.ref a12, .int 0, .ref a8, .int 0])), (a5, .inl (G.2 3, 181, .inr (.inr (.inr (.inr (va_up (fun _ => none) (0 : Int32).toNatClampNeg (some (tk 0)))))))), (a6, .inl (G.2 0, 181, .inl (upd (fun _ => 0) (0 : Int32).toNatClampNeg 0))), (a7, .inl (G.2 0, 181, .inl (upd (fun _ => 0) (0 : Int32).toNatClampNeg 0))), (a8, .inl (G.2 0, 5, .inl (fun _ => 0)))]) (w1 := [(a4, .inr (1, [.ref a9, .ref a10, .ref a11, .int 2])), (a9, .inl (G.2 0, 180, .inl (upd (upd (fun _ => 0) (0 : Int32).toNatClampNeg 7) (1 : Int32).toNatClampNeg 6))), (a10, .inl (G.2 0, 180, .inl (upd (upd (fun _ => 0) (0 : Int32).toNatClampNeg 0) (1 : Int32).toNatClampNeg 0))), (a11, .inl (G.2 0, 180, .inl (upd (upd (upd (fun _ => 0) (0 : Int32).toNatClampNeg 0) (0 : Int32).toNatClampNeg 1) (1 : Int32).toNatClampNeg 3)))]) hP hD [7, 8, 9, 10] [0, 1, 2, 3, 4, 5, 6] rfl rfl (by decide) (by decide) hk1 hFc hP1 hD1
  have hP : va_P G.1 nn_cls [(a1, .inr (2, [.ref a2, .ref a3, .ref a4, .int 0, .int (-1), .int (-1)])), (a2, .inr (6, [.ref a5, .ref a6, .ref a7, .int 1, .int 0])), (a3, .inr (5, [.ref a12, .int 0, .ref a8, .int 0])), (a5, .inl (G.2 3, 181, .inr (.inr (.inr (.inr (va_up (fun _ => none) (0 : Int32).toNatClampNeg (some (tk 0)))))))), (a6, .inl (G.2 0, 181, .inl (upd (fun _ => 0) (0 : Int32).toNatClampNeg 0))), (a7, .inl (G.2 0, 181, .inl (upd (fun _ => 0) (0 : Int32).toNatClampNeg 0))), (a8, .inl (G.2 0, 5, .inl (fun _ => 0))), (a4, .inr (1, [.ref a9, .ref a10, .ref a11, .int 2])), (a9, .inl (G.2 0, 180, .inl (upd (upd (fun _ => 0) (0 : Int32).toNatClampNeg 7) (1 : Int32).toNatClampNeg 6))), (a10, .inl (G.2 0, 180, .inl (upd (upd (fun _ => 0) (0 : Int32).toNatClampNeg 0) (1 : Int32).toNatClampNeg 0))), (a11, .inl (G.2 0, 180, .inl (upd (upd (upd (fun _ => 0) (0 : Int32).toNatClampNeg 0) (0 : Int32).toNatClampNeg 1) (1 : Int32).toNatClampNeg 3)))] H := hP
  have hD : va_D A [(a1, .inr (2, [.ref a2, .ref a3, .ref a4, .int 0, .int (-1), .int (-1)])), (a2, .inr (6, [.ref a5, .ref a6, .ref a7, .int 1, .int 0])), (a3, .inr (5, [.ref a12, .int 0, .ref a8, .int 0])), (a5, .inl (G.2 3, 181, .inr (.inr (.inr (.inr (va_up (fun _ => none) (0 : Int32).toNatClampNeg (some (tk 0)))))))), (a6, .inl (G.2 0, 181, .inl (upd (fun _ => 0) (0 : Int32).toNatClampNeg 0))), (a7, .inl (G.2 0, 181, .inl (upd (fun _ => 0) (0 : Int32).toNatClampNeg 0))), (a8, .inl (G.2 0, 5, .inl (fun _ => 0))), (a4, .inr (1, [.ref a9, .ref a10, .ref a11, .int 2])), (a9, .inl (G.2 0, 180, .inl (upd (upd (fun _ => 0) (0 : Int32).toNatClampNeg 7) (1 : Int32).toNatClampNeg 6))), (a10, .inl (G.2 0, 180, .inl (upd (upd (fun _ => 0) (0 : Int32).toNatClampNeg 0) (1 : Int32).toNatClampNeg 0))), (a11, .inl (G.2 0, 180, .inl (upd (upd (upd (fun _ => 0) (0 : Int32).toNatClampNeg 0) (0 : Int32).toNatClampNeg 1) (1 : Int32).toNatClampNeg 3)))] := hD
  refine W.widen (k := 0) (n := 0) (Nat.le_of_ble_eq_true rfl) (Nat.le_of_ble_eq_true rfl) ?_
  refine lv_pop hx hb d_Cm_block_93 rfl ?_
  refine lv_aload_n hx hb d_Cm_block_94 rfl (lv_at hl 3 rfl) ?_
  refine va_gets hx hb hE.2.2.2.1 hS hown (hg _ mw_671) (fun _ h9 => h9) d_Cm_block_95 ?_
  have hPc := hP.sub (ws' := [(a1, .inr (2, [.ref a2, .ref a3, .ref a4, .int 0, .int (-1), .int (-1)])), (a2, .inr (6, [.ref a5, .ref a6, .ref a7, .int 1, .int 0])), (a3, .inr (5, [.ref a12, .int 0, .ref a8, .int 0])), (a4, .inr (1, [.ref a9, .ref a10, .ref a11, .int 2])), (a5, .inl (G.2 3, 181, .inr (.inr (.inr (.inr (va_up (fun _ => none) (0 : Int32).toNatClampNeg (some (tk 0)))))))), (a6, .inl (G.2 0, 181, .inl (upd (fun _ => 0) (0 : Int32).toNatClampNeg 0))), (a7, .inl (G.2 0, 181, .inl (upd (fun _ => 0) (0 : Int32).toNatClampNeg 0))), (a8, .inl (G.2 0, 5, .inl (fun _ => 0))), (a9, .inl (G.2 0, 180, .inl (upd (upd (fun _ => 0) (0 : Int32).toNatClampNeg 7) (1 : Int32).toNatClampNeg 6))), (a10, .inl (G.2 0, 180, .inl (upd (upd (fun _ => 0) (0 : Int32).toNatClampNeg 0) (1 : Int32).toNatClampNeg 0))), (a11, .inl (G.2 0, 180, .inl (upd (upd (upd (fun _ => 0) (0 : Int32).toNatClampNeg 0) (0 : Int32).toNatClampNeg 1) (1 : Int32).toNatClampNeg 3)))]) [0, 1, 2, 7, 3, 4, 5, 6, 8, 9, 10] rfl
  have hDc := hD.sub (ws' := [(a1, .inr (2, [.ref a2, .ref a3, .ref a4, .int 0, .int (-1), .int (-1)])), (a2, .inr (6, [.ref a5, .ref a6, .ref a7, .int 1, .int 0])), (a3, .inr (5, [.ref a12, .int 0, .ref a8, .int 0])), (a4, .inr (1, [.ref a9, .ref a10, .ref a11, .int 2])), (a5, .inl (G.2 3, 181, .inr (.inr (.inr (.inr (va_up (fun _ => none) (0 : Int32).toNatClampNeg (some (tk 0)))))))), (a6, .inl (G.2 0, 181, .inl (upd (fun _ => 0) (0 : Int32).toNatClampNeg 0))), (a7, .inl (G.2 0, 181, .inl (upd (fun _ => 0) (0 : Int32).toNatClampNeg 0))), (a8, .inl (G.2 0, 5, .inl (fun _ => 0))), (a9, .inl (G.2 0, 180, .inl (upd (upd (fun _ => 0) (0 : Int32).toNatClampNeg 7) (1 : Int32).toNatClampNeg 6))), (a10, .inl (G.2 0, 180, .inl (upd (upd (fun _ => 0) (0 : Int32).toNatClampNeg 0) (1 : Int32).toNatClampNeg 0))), (a11, .inl (G.2 0, 180, .inl (upd (upd (upd (fun _ => 0) (0 : Int32).toNatClampNeg 0) (0 : Int32).toNatClampNeg 1) (1 : Int32).toNatClampNeg 3)))]) [0, 1, 2, 7, 3, 4, 5, 6, 8, 9, 10] (by decide) rfl
  have hFc := va_free (wc := [(a1, .inr (2, [.ref a2, .ref a3, .ref a4, .int 0, .int (-1), .int (-1)])), (a2, .inr (6, [.ref a5, .ref a6, .ref a7, .int 1, .int 0])), (a3, .inr (5, [.ref a12, .int 0, .ref a8, .int 0])), (a4, .inr (1, [.ref a9, .ref a10, .ref a11, .int 2])), (a5, .inl (G.2 3, 181, .inr (.inr (.inr (.inr (va_up (fun _ => none) (0 : Int32).toNatClampNeg (some (tk 0)))))))), (a6, .inl (G.2 0, 181, .inl (upd (fun _ => 0) (0 : Int32).toNatClampNeg 0))), (a7, .inl (G.2 0, 181, .inl (upd (fun _ => 0) (0 : Int32).toNatClampNeg 0))), (a8, .inl (G.2 0, 5, .inl (fun _ => 0))), (a9, .inl (G.2 0, 180, .inl (upd (upd (fun _ => 0) (0 : Int32).toNatClampNeg 7) (1 : Int32).toNatClampNeg 6))), (a10, .inl (G.2 0, 180, .inl (upd (upd (fun _ => 0) (0 : Int32).toNatClampNeg 0) (1 : Int32).toNatClampNeg 0))), (a11, .inl (G.2 0, 180, .inl (upd (upd (upd (fun _ => 0) (0 : Int32).toNatClampNeg 0) (0 : Int32).toNatClampNeg 1) (1 : Int32).toNatClampNeg 3)))]) hD hS hA [0, 1, 2, 7, 3, 4, 5, 6, 8, 9, 10] rfl
  exact nt_propV (As := [.ref (tk 3)]) (rest := []) ⟨hx, hb, hml, hown, hts⟩ (a_Cm_expect_1 l hfl G tk _ a1 a2 a3 a4 a5 a6 a7 a8 a9 a10 a11 a12) (cwV 1 hts (nn_gV mw_544 mw_541 mw_543 mw_10 mw_88) rfl rfl rfl (by decide +kernel) ⟨Nat.le_of_ble_eq_true rfl, Nat.le_of_ble_eq_true rfl⟩) (ns_preV (va_recv hK hP rfl (q0 := 0) rfl) hPc hDc hK hN hE hS hFc) rfl hl.1 rfl (lv_room (Nat.le_of_ble_eq_true rfl)) d_Cm_block_98 ⟨Nat.le_of_ble_eq_true rfl, Nat.le_of_ble_eq_true rfl⟩ hnh hlocks hS.2.2 hFc

theorem mw_6 : (.selects R_Cm y_Cm_block y_Cm_block : Cond) ∈ nn_gw := nn_at 6 (by decide +kernel) (by decide +kernel)
theorem mw_502 : (.methodLink R_Cm 50 y_Cm_block : Cond) ∈ nn_gw := nn_at 502 (by decide +kernel) (by decide +kernel)
theorem mw_504 : (.instanceMethod y_Cm_block : Cond) ∈ nn_gw := nn_at 504 (by decide +kernel) (by decide +kernel)
theorem mw_505 : (.code y_Cm_block b_Cm_block 5 none : Cond) ∈ nn_gw := nn_at 505 (by decide +kernel) (by decide +kernel)

set_option maxHeartbeats 4000000 in
set_option maxRecDepth 100000 in
theorem a_Cm_translate_1 (l : Launch) (hfl : l.flags = flags0) (G : nn_G) (tk : Nat → Nat) (sz : Nat) (a1 a2 a3 a4 a5 a6 a7 a8 a9 a10 a11 a12 a13 : Nat) : nt_Met l y_Cm_translate w_Cm_translate ({ frames := 9, cells := 1, slots := 6, locals := 267 }) (ns_P G tk [.ref a1, .ref a2, .int 0] [(a1, .inr (2, [.ref a3, .ref a4, .ref a5, .int 0, .int (-1), .int (-1)])), (a2, .inl (G.2 1, 180, .inl (fun _ => 0))), (a3, .inr (6, [.ref a6, .ref a7, .ref a8, .int 0, .int 0])), (a4, .inr (5, [.ref a13, .int 0, .ref a9, .int 0])), (a5, .inr (1, [.ref a10, .ref a11, .ref a12, .int 0])), (a6, .inl (G.2 3, 181, .inr (.inr (.inr (.inr (fun _ => none)))))), (a7, .inl (G.2 0, 181, .inl (fun _ => 0))), (a8, .inl (G.2 0, 181, .inl (fun _ => 0))), (a9, .inl (G.2 0, 5, .inl (fun _ => 0))), (a10, .inl (G.2 0, 180, .inl (fun _ => 0))), (a11, .inl (G.2 0, 180, .inl (fun _ => 0))), (a12, .inl (G.2 0, 180, .inl (fun _ => 0)))] sz) 1 6 (va_A [(a1, .inr (2, [.ref a3, .ref a4, .ref a5, .int 0, .int (-1), .int (-1)])), (a2, .inl (G.2 1, 180, .inl (fun _ => 0))), (a3, .inr (6, [.ref a6, .ref a7, .ref a8, .int 0, .int 0])), (a4, .inr (5, [.ref a13, .int 0, .ref a9, .int 0])), (a5, .inr (1, [.ref a10, .ref a11, .ref a12, .int 0])), (a6, .inl (G.2 3, 181, .inr (.inr (.inr (.inr (fun _ => none)))))), (a7, .inl (G.2 0, 181, .inl (fun _ => 0))), (a8, .inl (G.2 0, 181, .inl (fun _ => 0))), (a9, .inl (G.2 0, 5, .inl (fun _ => 0))), (a10, .inl (G.2 0, 180, .inl (fun _ => 0))), (a11, .inl (G.2 0, 180, .inl (fun _ => 0))), (a12, .inl (G.2 0, 180, .inl (fun _ => 0)))] sz) := by
  refine nt_ofW (cc := b_Cm_translate) (maxL := 3) (ret := none) (by decide) rfl ?_
  intro p e s m args below meth c s₁ B hml hv
  obtain ⟨rfl, ⟨hsz, hP, hK, hD0, hN⟩, hE⟩ := hv
  have hx := B.exec
  have hb := B.bytes
  have hr := B.returns
  have hts := atoms_spec (ws := w_Cm_translate) B.pre
  have hg : ∀ w ∈ nn_gw, w.before _ s = true := fun w h => hts w (List.mem_cons_of_mem _ h)
  have hown : s.vm.findClass R_Cm = some m.cls := findClass_of_methodNamed B.named
  have hlocks := B.notSynchronized
  have hnh : c.exceptionTable.isEmpty = true := B.noHandlers (hts _ List.mem_cons_self)
  subst hsz
  have hD := hD0.self (sz := s.heap.size)
  generalize hAe : va_A [(a1, .inr (2, [.ref a3, .ref a4, .ref a5, .int 0, .int (-1), .int (-1)])), (a2, .inl (G.2 1, 180, .inl (fun _ => 0))), (a3, .inr (6, [.ref a6, .ref a7, .ref a8, .int 0, .int 0])), (a4, .inr (5, [.ref a13, .int 0, .ref a9, .int 0])), (a5, .inr (1, [.ref a10, .ref a11, .ref a12, .int 0])), (a6, .inl (G.2 3, 181, .inr (.inr (.inr (.inr (fun _ => none)))))), (a7, .inl (G.2 0, 181, .inl (fun _ => 0))), (a8, .inl (G.2 0, 181, .inl (fun _ => 0))), (a9, .inl (G.2 0, 5, .inl (fun _ => 0))), (a10, .inl (G.2 0, 180, .inl (fun _ => 0))), (a11, .inl (G.2 0, 180, .inl (fun _ => 0))), (a12, .inl (G.2 0, 180, .inl (fun _ => 0)))] s.heap.size = A at hD hE ⊢
  have hA : ∀ q : Nat, s.heap.size ≤ q → A q := fun q h => by rw [← hAe]; exact Or.inr h
  have hS : va_S A s.heap s.heap [] := va_S.rf
  have hP : va_P G.1 nn_cls [(a1, .inr (2, [.ref a3, .ref a4, .ref a5, .int 0, .int (-1), .int (-1)])), (a2, .inl (G.2 1, 180, .inl (fun _ => 0))), (a3, .inr (6, [.ref a6, .ref a7, .ref a8, .int 0, .int 0])), (a4, .inr (5, [.ref a13, .int 0, .ref a9, .int 0])), (a5, .inr (1, [.ref a10, .ref a11, .ref a12, .int 0])), (a6, .inl (G.2 3, 181, .inr (.inr (.inr (.inr (fun _ => none)))))), (a7, .inl (G.2 0, 181, .inl (fun _ => 0))), (a8, .inl (G.2 0, 181, .inl (fun _ => 0))), (a9, .inl (G.2 0, 5, .inl (fun _ => 0))), (a10, .inl (G.2 0, 180, .inl (fun _ => 0))), (a11, .inl (G.2 0, 180, .inl (fun _ => 0))), (a12, .inl (G.2 0, 180, .inl (fun _ => 0)))] s.heap := hP
  have hP0 := hP
  have hl := lv_entry ([.ref a1, .ref a2, .int 0]) (n := 3) (Nat.le_of_ble_eq_true rfl)
  rw [lg_entry_eq]
  generalize (lg_sl ([.ref a1, .ref a2, .int 0]) ++ List.replicate (3 - (lg_sl ([.ref a1, .ref a2, .int 0])).length) Slot.unset).toArray = ls at hl ⊢
  have hl : lv_has ls 3 [(0, .ref a1), (1, .ref a2), (2, .int 0)] := hl
  refine lv_aload_n hx hb d_Cm_translate_0 rfl (lv_at hl 0 rfl) ?_
  refine va_get (D := G.1) (ci := 2) (v := .ref a4) (C := R_Cm) (T := T_Cm) (N := 6) hx hb hg in_Cm hown hK hP 0 rfl rfl 1 (by decide) (hg _ mw_220) (fun _ h9 => h9) rfl d_Cm_translate_1 ?_
  have hPc := hP.sub (ws' := [(a4, .inr (5, [.ref a13, .int 0, .ref a9, .int 0])), (a9, .inl (G.2 0, 5, .inl (fun _ => 0)))]) [3, 8] rfl
  have hDc := hD.sub (ws' := [(a4, .inr (5, [.ref a13, .int 0, .ref a9, .int 0])), (a9, .inl (G.2 0, 5, .inl (fun _ => 0)))]) [3, 8] (by decide) rfl
  have hFc := va_free (wc := [(a4, .inr (5, [.ref a13, .int 0, .ref a9, .int 0])), (a9, .inl (G.2 0, 5, .inl (fun _ => 0)))]) hD hS hA [3, 8] rfl
  refine va_callv (va_runV (As := []) (rest := []) ⟨hx, hb, hml, hown, hts⟩ (a_Ns_clear_1 l G _ a4 a9 a13) (cwV 0 hts (nn_gV mw_404 mw_401 mw_402 mw_403 mw_90) rfl rfl rfl (by decide +kernel) ⟨Nat.le_of_ble_eq_true rfl, Nat.le_of_ble_eq_true rfl⟩) (nn_preV (va_recv hK hP rfl (q0 := 3) rfl) hPc hDc hK hN) rfl rfl hl.1 rfl (lv_room (Nat.le_of_ble_eq_true rfl)) d_Cm_translate_4 ⟨(Nat.le_of_ble_eq_true rfl), (Nat.le_of_ble_eq_true rfl)⟩) hS (fun q _ h => hFc q h) hFc (fun u1 t H locs ht hvm hw hB hz1 hk1 hS => ?_)
  obtain ⟨hP1, hD1⟩ := hB
  rw [ht] at hP1
  obtain ⟨hP, hD⟩ := va_join (wr := [(a1, .inr (2, [.ref a3, .ref a4, .ref a5, .int 0, .int (-1), .int (-1)])), (a2, .inl (G.2 1, 180, .inl (fun _ => 0))), (a3, .inr (6, [.ref a6, .ref a7, .ref a8, .int 0, .int 0])), (a5, .inr (1, [.ref a10, .ref a11, .ref a12, .int 0])), (a6, .inl (G.2 3, 181, .inr (.inr (.inr (.inr (fun _ => none)))))), (a7, .inl (G.2 0, 181, .inl (fun _ => 0))), (a8, .inl (G.2 0, 181, .inl (fun _ => 0))), (a10, .inl (G.2 0, 180, .inl (fun _ => 0))), (a11, .inl (G.2 0, 180, .inl (fun _ => 0))), (a12, .inl (G.2 0, 180, .inl (fun _ => 0)))]) (w1 := [(a4, .inr (5, [.ref a13, .int 0, .ref a9, .int 0])), (a9, .inl (G.2 0, 5, .inl (fun _ => 0)))]) hP hD [3, 8] [0, 1, 2, 4, 5, 6, 7, 9, 10, 11] rfl rfl (by decide) (by decide) hk1 hFc hP1 hD1
  have hP : va_P G.1 nn_cls [(a1, .inr (2, [.ref a3, .ref a4, .ref a5, .int 0, .int (-1), .int (-1)])), (a2, .inl (G.2 1, 180, .inl (fun _ => 0))), (a3, .inr (6, [.ref a6, .ref a7, .ref a8, .int 0, .int 0])), (a5, .inr (1, [.ref a10, .ref a11, .ref a12, .int 0])), (a6, .inl (G.2 3, 181, .inr (.inr (.inr (.inr (fun _ => none)))))), (a7, .inl (G.2 0, 181, .inl (fun _ => 0))), (a8, .inl (G.2 0, 181, .inl (fun _ => 0))), (a10, .inl (G.2 0, 180, .inl (fun _ => 0))), (a11, .inl (G.2 0, 180, .inl (fun _ => 0))), (a12, .inl (G.2 0, 180, .inl (fun _ => 0))), (a4, .inr (5, [.ref a13, .int 0, .ref a9, .int 0])), (a9, .inl (G.2 0, 5, .inl (fun _ => 0)))] H := hP
  have hD : va_D A [(a1, .inr (2, [.ref a3, .ref a4, .ref a5, .int 0, .int (-1), .int (-1)])), (a2, .inl (G.2 1, 180, .inl (fun _ => 0))), (a3, .inr (6, [.ref a6, .ref a7, .ref a8, .int 0, .int 0])), (a5, .inr (1, [.ref a10, .ref a11, .ref a12, .int 0])), (a6, .inl (G.2 3, 181, .inr (.inr (.inr (.inr (fun _ => none)))))), (a7, .inl (G.2 0, 181, .inl (fun _ => 0))), (a8, .inl (G.2 0, 181, .inl (fun _ => 0))), (a10, .inl (G.2 0, 180, .inl (fun _ => 0))), (a11, .inl (G.2 0, 180, .inl (fun _ => 0))), (a12, .inl (G.2 0, 180, .inl (fun _ => 0))), (a4, .inr (5, [.ref a13, .int 0, .ref a9, .int 0])), (a9, .inl (G.2 0, 5, .inl (fun _ => 0)))] := hD
  refine W.widen (k := 0) (n := 0) (Nat.le_of_ble_eq_true rfl) (Nat.le_of_ble_eq_true rfl) ?_
  refine lv_aload_n hx hb d_Cm_translate_7 rfl (lv_at hl 0 rfl) ?_
  refine va_get (D := G.1) (ci := 2) (v := .ref a5) (C := R_Cm) (T := T_Cm) (N := 6) hx hb hg in_Cm hown hK hP 0 rfl rfl 2 (by decide) (hg _ mw_221) (fun _ h9 => h9) rfl d_Cm_translate_8 ?_
  have hPc := hP.sub (ws' := [(a5, .inr (1, [.ref a10, .ref a11, .ref a12, .int 0])), (a10, .inl (G.2 0, 180, .inl (fun _ => 0))), (a11, .inl (G.2 0, 180, .inl (fun _ => 0))), (a12, .inl (G.2 0, 180, .inl (fun _ => 0)))]) [3, 7, 8, 9] rfl
  have hDc := hD.sub (ws' := [(a5, .inr (1, [.ref a10, .ref a11, .ref a12, .int 0])), (a10, .inl (G.2 0, 180, .inl (fun _ => 0))), (a11, .inl (G.2 0, 180, .inl (fun _ => 0))), (a12, .inl (G.2 0, 180, .inl (fun _ => 0)))]) [3, 7, 8, 9] (by decide) rfl
  have hFc := va_free (wc := [(a5, .inr (1, [.ref a10, .ref a11, .ref a12, .int 0])), (a10, .inl (G.2 0, 180, .inl (fun _ => 0))), (a11, .inl (G.2 0, 180, .inl (fun _ => 0))), (a12, .inl (G.2 0, 180, .inl (fun _ => 0)))]) hD hS hA [3, 7, 8, 9] rfl
  refine va_callv (va_runV (As := []) (rest := []) ⟨hx, hb, hml, hown, hts⟩ (a_Co_clear_1 l G _ a5 a10 a11 a12) (cwV 0 hts (nn_gV mw_408 mw_405 mw_406 mw_407 mw_92) rfl rfl rfl (by decide +kernel) ⟨Nat.le_of_ble_eq_true rfl, Nat.le_of_ble_eq_true rfl⟩) (nn_preV (va_recv hK hP rfl (q0 := 3) rfl) hPc hDc hK hN) rfl rfl hl.1 rfl (lv_room (Nat.le_of_ble_eq_true rfl)) d_Cm_translate_11 ⟨(Nat.le_of_ble_eq_true rfl), (Nat.le_of_ble_eq_true rfl)⟩) hS (fun q _ h => hFc q h) hFc (fun u2 t H locs ht hvm hw hB hz1 hk1 hS => ?_)
  obtain ⟨hP1, hD1⟩ := hB
  rw [ht] at hP1
  obtain ⟨hP, hD⟩ := va_join (wr := [(a1, .inr (2, [.ref a3, .ref a4, .ref a5, .int 0, .int (-1), .int (-1)])), (a2, .inl (G.2 1, 180, .inl (fun _ => 0))), (a3, .inr (6, [.ref a6, .ref a7, .ref a8, .int 0, .int 0])), (a6, .inl (G.2 3, 181, .inr (.inr (.inr (.inr (fun _ => none)))))), (a7, .inl (G.2 0, 181, .inl (fun _ => 0))), (a8, .inl (G.2 0, 181, .inl (fun _ => 0))), (a4, .inr (5, [.ref a13, .int 0, .ref a9, .int 0])), (a9, .inl (G.2 0, 5, .inl (fun _ => 0)))]) (w1 := [(a5, .inr (1, [.ref a10, .ref a11, .ref a12, .int 0])), (a10, .inl (G.2 0, 180, .inl (fun _ => 0))), (a11, .inl (G.2 0, 180, .inl (fun _ => 0))), (a12, .inl (G.2 0, 180, .inl (fun _ => 0)))]) hP hD [3, 7, 8, 9] [0, 1, 2, 4, 5, 6, 10, 11] rfl rfl (by decide) (by decide) hk1 hFc hP1 hD1
  have hP : va_P G.1 nn_cls [(a1, .inr (2, [.ref a3, .ref a4, .ref a5, .int 0, .int (-1), .int (-1)])), (a2, .inl (G.2 1, 180, .inl (fun _ => 0))), (a3, .inr (6, [.ref a6, .ref a7, .ref a8, .int 0, .int 0])), (a6, .inl (G.2 3, 181, .inr (.inr (.inr (.inr (fun _ => none)))))), (a7, .inl (G.2 0, 181, .inl (fun _ => 0))), (a8, .inl (G.2 0, 181, .inl (fun _ => 0))), (a4, .inr (5, [.ref a13, .int 0, .ref a9, .int 0])), (a9, .inl (G.2 0, 5, .inl (fun _ => 0))), (a5, .inr (1, [.ref a10, .ref a11, .ref a12, .int 0])), (a10, .inl (G.2 0, 180, .inl (fun _ => 0))), (a11, .inl (G.2 0, 180, .inl (fun _ => 0))), (a12, .inl (G.2 0, 180, .inl (fun _ => 0)))] H := hP
  have hD : va_D A [(a1, .inr (2, [.ref a3, .ref a4, .ref a5, .int 0, .int (-1), .int (-1)])), (a2, .inl (G.2 1, 180, .inl (fun _ => 0))), (a3, .inr (6, [.ref a6, .ref a7, .ref a8, .int 0, .int 0])), (a6, .inl (G.2 3, 181, .inr (.inr (.inr (.inr (fun _ => none)))))), (a7, .inl (G.2 0, 181, .inl (fun _ => 0))), (a8, .inl (G.2 0, 181, .inl (fun _ => 0))), (a4, .inr (5, [.ref a13, .int 0, .ref a9, .int 0])), (a9, .inl (G.2 0, 5, .inl (fun _ => 0))), (a5, .inr (1, [.ref a10, .ref a11, .ref a12, .int 0])), (a10, .inl (G.2 0, 180, .inl (fun _ => 0))), (a11, .inl (G.2 0, 180, .inl (fun _ => 0))), (a12, .inl (G.2 0, 180, .inl (fun _ => 0)))] := hD
  refine W.widen (k := 0) (n := 0) (Nat.le_of_ble_eq_true rfl) (Nat.le_of_ble_eq_true rfl) ?_
  refine lv_aload_n hx hb d_Cm_translate_14 rfl (lv_at hl 0 rfl) ?_
  refine lv_iconst (v := 0) hx hb d_Cm_translate_15 (by decide) ?_
  refine va_put (D := G.1) (ci := 2) (v := .int 0) (ty := .int) (C := R_Cm) (T := T_Cm) (N := 6) hx hb hg in_Cm t_Cm ok_Cm nm_Cm hown hK hP hD hS 0 rfl rfl 3 (by decide) (hg _ mw_222) (fun _ h9 => h9) rfl (by decide +kernel) rfl rfl (Nat.le_of_ble_eq_true rfl) d_Cm_translate_16 (fun H locs hP hD hS => ?_)
  have hP : va_P G.1 nn_cls [(a1, .inr (2, [.ref a3, .ref a4, .ref a5, .int 0, .int (-1), .int (-1)])), (a2, .inl (G.2 1, 180, .inl (fun _ => 0))), (a3, .inr (6, [.ref a6, .ref a7, .ref a8, .int 0, .int 0])), (a6, .inl (G.2 3, 181, .inr (.inr (.inr (.inr (fun _ => none)))))), (a7, .inl (G.2 0, 181, .inl (fun _ => 0))), (a8, .inl (G.2 0, 181, .inl (fun _ => 0))), (a4, .inr (5, [.ref a13, .int 0, .ref a9, .int 0])), (a9, .inl (G.2 0, 5, .inl (fun _ => 0))), (a5, .inr (1, [.ref a10, .ref a11, .ref a12, .int 0])), (a10, .inl (G.2 0, 180, .inl (fun _ => 0))), (a11, .inl (G.2 0, 180, .inl (fun _ => 0))), (a12, .inl (G.2 0, 180, .inl (fun _ => 0)))] H := hP
  have hD : va_D A [(a1, .inr (2, [.ref a3, .ref a4, .ref a5, .int 0, .int (-1), .int (-1)])), (a2, .inl (G.2 1, 180, .inl (fun _ => 0))), (a3, .inr (6, [.ref a6, .ref a7, .ref a8, .int 0, .int 0])), (a6, .inl (G.2 3, 181, .inr (.inr (.inr (.inr (fun _ => none)))))), (a7, .inl (G.2 0, 181, .inl (fun _ => 0))), (a8, .inl (G.2 0, 181, .inl (fun _ => 0))), (a4, .inr (5, [.ref a13, .int 0, .ref a9, .int 0])), (a9, .inl (G.2 0, 5, .inl (fun _ => 0))), (a5, .inr (1, [.ref a10, .ref a11, .ref a12, .int 0])), (a10, .inl (G.2 0, 180, .inl (fun _ => 0))), (a11, .inl (G.2 0, 180, .inl (fun _ => 0))), (a12, .inl (G.2 0, 180, .inl (fun _ => 0)))] := hD
  refine lv_aload_n hx hb d_Cm_translate_19 rfl (lv_at hl 0 rfl) ?_
  refine lv_iconst (v := (-1)) hx hb d_Cm_translate_20 (by decide) ?_
  refine va_put (D := G.1) (ci := 2) (v := .int (-1)) (ty := .int) (C := R_Cm) (T := T_Cm) (N := 6) hx hb hg in_Cm t_Cm ok_Cm nm_Cm hown hK hP hD hS 0 rfl rfl 4 (by decide) (hg _ mw_223) (fun _ h9 => h9) rfl (by decide +kernel) rfl rfl (Nat.le_of_ble_eq_true rfl) d_Cm_translate_21 (fun H locs hP hD hS => ?_)
  have hP : va_P G.1 nn_cls [(a1, .inr (2, [.ref a3, .ref a4, .ref a5, .int 0, .int (-1), .int (-1)])), (a2, .inl (G.2 1, 180, .inl (fun _ => 0))), (a3, .inr (6, [.ref a6, .ref a7, .ref a8, .int 0, .int 0])), (a6, .inl (G.2 3, 181, .inr (.inr (.inr (.inr (fun _ => none)))))), (a7, .inl (G.2 0, 181, .inl (fun _ => 0))), (a8, .inl (G.2 0, 181, .inl (fun _ => 0))), (a4, .inr (5, [.ref a13, .int 0, .ref a9, .int 0])), (a9, .inl (G.2 0, 5, .inl (fun _ => 0))), (a5, .inr (1, [.ref a10, .ref a11, .ref a12, .int 0])), (a10, .inl (G.2 0, 180, .inl (fun _ => 0))), (a11, .inl (G.2 0, 180, .inl (fun _ => 0))), (a12, .inl (G.2 0, 180, .inl (fun _ => 0)))] H := hP
  have hD : va_D A [(a1, .inr (2, [.ref a3, .ref a4, .ref a5, .int 0, .int (-1), .int (-1)])), (a2, .inl (G.2 1, 180, .inl (fun _ => 0))), (a3, .inr (6, [.ref a6, .ref a7, .ref a8, .int 0, .int 0])), (a6, .inl (G.2 3, 181, .inr (.inr (.inr (.inr (fun _ => none)))))), (a7, .inl (G.2 0, 181, .inl (fun _ => 0))), (a8, .inl (G.2 0, 181, .inl (fun _ => 0))), (a4, .inr (5, [.ref a13, .int 0, .ref a9, .int 0])), (a9, .inl (G.2 0, 5, .inl (fun _ => 0))), (a5, .inr (1, [.ref a10, .ref a11, .ref a12, .int 0])), (a10, .inl (G.2 0, 180, .inl (fun _ => 0))), (a11, .inl (G.2 0, 180, .inl (fun _ => 0))), (a12, .inl (G.2 0, 180, .inl (fun _ => 0)))] := hD
  refine lv_aload_n hx hb d_Cm_translate_24 rfl (lv_at hl 0 rfl) ?_
  refine lv_iconst (v := (-1)) hx hb d_Cm_translate_25 (by decide) ?_
  refine va_put (D := G.1) (ci := 2) (v := .int (-1)) (ty := .int) (C := R_Cm) (T := T_Cm) (N := 6) hx hb hg in_Cm t_Cm ok_Cm nm_Cm hown hK hP hD hS 0 rfl rfl 5 (by decide) (hg _ mw_224) (fun _ h9 => h9) rfl (by decide +kernel) rfl rfl (Nat.le_of_ble_eq_true rfl) d_Cm_translate_26 (fun H locs hP hD hS => ?_)
  have hP : va_P G.1 nn_cls [(a1, .inr (2, [.ref a3, .ref a4, .ref a5, .int 0, .int (-1), .int (-1)])), (a2, .inl (G.2 1, 180, .inl (fun _ => 0))), (a3, .inr (6, [.ref a6, .ref a7, .ref a8, .int 0, .int 0])), (a6, .inl (G.2 3, 181, .inr (.inr (.inr (.inr (fun _ => none)))))), (a7, .inl (G.2 0, 181, .inl (fun _ => 0))), (a8, .inl (G.2 0, 181, .inl (fun _ => 0))), (a4, .inr (5, [.ref a13, .int 0, .ref a9, .int 0])), (a9, .inl (G.2 0, 5, .inl (fun _ => 0))), (a5, .inr (1, [.ref a10, .ref a11, .ref a12, .int 0])), (a10, .inl (G.2 0, 180, .inl (fun _ => 0))), (a11, .inl (G.2 0, 180, .inl (fun _ => 0))), (a12, .inl (G.2 0, 180, .inl (fun _ => 0)))] H := hP
  have hD : va_D A [(a1, .inr (2, [.ref a3, .ref a4, .ref a5, .int 0, .int (-1), .int (-1)])), (a2, .inl (G.2 1, 180, .inl (fun _ => 0))), (a3, .inr (6, [.ref a6, .ref a7, .ref a8, .int 0, .int 0])), (a6, .inl (G.2 3, 181, .inr (.inr (.inr (.inr (fun _ => none)))))), (a7, .inl (G.2 0, 181, .inl (fun _ => 0))), (a8, .inl (G.2 0, 181, .inl (fun _ => 0))), (a4, .inr (5, [.ref a13, .int 0, .ref a9, .int 0])), (a9, .inl (G.2 0, 5, .inl (fun _ => 0))), (a5, .inr (1, [.ref a10, .ref a11, .ref a12, .int 0])), (a10, .inl (G.2 0, 180, .inl (fun _ => 0))), (a11, .inl (G.2 0, 180, .inl (fun _ => 0))), (a12, .inl (G.2 0, 180, .inl (fun _ => 0)))] := hD
  refine lv_aload_n hx hb d_Cm_translate_29 rfl (lv_at hl 0 rfl) ?_
  refine va_get (D := G.1) (ci := 2) (v := .ref a3) (C := R_Cm) (T := T_Cm) (N := 6) hx hb hg in_Cm hown hK hP 0 rfl rfl 0 (by decide) (hg _ mw_219) (fun _ h9 => h9) rfl d_Cm_translate_30 ?_
  refine lv_aload_n hx hb d_Cm_translate_33 rfl (lv_at hl 1 rfl) ?_
  refine lv_iload_n hx hb d_Cm_translate_34 rfl (lv_at hl 2 rfl) ?_
  have hPc := hP.sub (ws' := [(a3, .inr (6, [.ref a6, .ref a7, .ref a8, .int 0, .int 0])), (a2, .inl (G.2 1, 180, .inl (fun _ => 0))), (a6, .inl (G.2 3, 181, .inr (.inr (.inr (.inr (fun _ => none)))))), (a7, .inl (G.2 0, 181, .inl (fun _ => 0))), (a8, .inl (G.2 0, 181, .inl (fun _ => 0)))]) [2, 1, 3, 4, 5] rfl
  have hDc := hD.sub (ws' := [(a3, .inr (6, [.ref a6, .ref a7, .ref a8, .int 0, .int 0])), (a2, .inl (G.2 1, 180, .inl (fun _ => 0))), (a6, .inl (G.2 3, 181, .inr (.inr (.inr (.inr (fun _ => none)))))), (a7, .inl (G.2 0, 181, .inl (fun _ => 0))), (a8, .inl (G.2 0, 181, .inl (fun _ => 0)))]) [2, 1, 3, 4, 5] (by decide) rfl
  have hFc := va_free (wc := [(a3, .inr (6, [.ref a6, .ref a7, .ref a8, .int 0, .int 0])), (a2, .inl (G.2 1, 180, .inl (fun _ => 0))), (a6, .inl (G.2 3, 181, .inr (.inr (.inr (.inr (fun _ => none)))))), (a7, .inl (G.2 0, 181, .inl (fun _ => 0))), (a8, .inl (G.2 0, 181, .inl (fun _ => 0)))]) hD hS hA [2, 1, 3, 4, 5] rfl
  have hFc := va_free (wc := [(a3, .inr (6, [.ref a6, .ref a7, .ref a8, .int 0, .int 0])), (a2, .inl (G.2 1, 180, .inl (fun _ => 0))), (a6, .inl (G.2 3, 181, .inr (.inr (.inr (.inr (fun _ => none)))))), (a7, .inl (G.2 0, 181, .inl (fun _ => 0))), (a8, .inl (G.2 0, 181, .inl (fun _ => 0)))]) hD hS hA [2, 1, 3, 4, 5] rfl
  refine va_callv (va_runV (As := [.ref a2, .int 0]) (rest := []) ⟨hx, hb, hml, hown, hts⟩ (a_Ts_cut_1 l G tk _ a3 a2 a6 a7 a8) (cwV 2 hts (nn_gV mw_412 mw_409 mw_410 mw_411 mw_89) rfl rfl rfl (by decide +kernel) ⟨Nat.le_of_ble_eq_true rfl, Nat.le_of_ble_eq_true rfl⟩) (ns_preV (va_recv hK hP rfl (q0 := 2) rfl) hPc hDc hK hN hE hS hFc) rfl rfl hl.1 rfl (lv_room (Nat.le_of_ble_eq_true rfl)) d_Cm_translate_35 ⟨(Nat.le_of_ble_eq_true rfl), (Nat.le_of_ble_eq_true rfl)⟩) hS (fun q _ h => hFc q h) hFc (fun u3 t H locs ht hvm hw hB hz1 hk1 hS => ?_)
  obtain ⟨hP1, hD1⟩ := hB
  rw [ht] at hP1
  obtain ⟨hP, hD⟩ := va_join (wr := [(a1, .inr (2, [.ref a3, .ref a4, .ref a5, .int 0, .int (-1), .int (-1)])), (a4, .inr (5, [.ref a13, .int 0, .ref a9, .int 0])), (a9, .inl (G.2 0, 5, .inl (fun _ => 0))), (a5, .inr (1, [.ref a10, .ref a11, .ref a12, .int 0])), (a10, .inl (G.2 0, 180, .inl (fun _ => 0))), (a11, .inl (G.2 0, 180, .inl (fun _ => 0))), (a12, .inl (G.2 0, 180, .inl (fun _ => 0)))]) (w1 := [(a3, .inr (6, [.ref a6, .ref a7, .ref a8, .int 1, .int 0])), (a2, .inl (G.2 1, 180, .inl (fun _ => 0))), (a6, .inl (G.2 3, 181, .inr (.inr (.inr (.inr (va_up (fun _ => none) (0 : Int32).toNatClampNeg (some (tk 0)))))))), (a7, .inl (G.2 0, 181, .inl (upd (fun _ => 0) (0 : Int32).toNatClampNeg 0))), (a8, .inl (G.2 0, 181, .inl (upd (fun _ => 0) (0 : Int32).toNatClampNeg 0)))]) hP hD [2, 1, 3, 4, 5] [0, 6, 7, 8, 9, 10, 11] rfl rfl (by decide) (by decide) hk1 hFc hP1 hD1
  have hP : va_P G.1 nn_cls [(a1, .inr (2, [.ref a3, .ref a4, .ref a5, .int 0, .int (-1), .int (-1)])), (a4, .inr (5, [.ref a13, .int 0, .ref a9, .int 0])), (a9, .inl (G.2 0, 5, .inl (fun _ => 0))), (a5, .inr (1, [.ref a10, .ref a11, .ref a12, .int 0])), (a10, .inl (G.2 0, 180, .inl (fun _ => 0))), (a11, .inl (G.2 0, 180, .inl (fun _ => 0))), (a12, .inl (G.2 0, 180, .inl (fun _ => 0))), (a3, .inr (6, [.ref a6, .ref a7, .ref a8, .int 1, .int 0])), (a2, .inl (G.2 1, 180, .inl (fun _ => 0))), (a6, .inl (G.2 3, 181, .inr (.inr (.inr (.inr (va_up (fun _ => none) (0 : Int32).toNatClampNeg (some (tk 0)))))))), (a7, .inl (G.2 0, 181, .inl (upd (fun _ => 0) (0 : Int32).toNatClampNeg 0))), (a8, .inl (G.2 0, 181, .inl (upd (fun _ => 0) (0 : Int32).toNatClampNeg 0)))] H := hP
  have hD : va_D A [(a1, .inr (2, [.ref a3, .ref a4, .ref a5, .int 0, .int (-1), .int (-1)])), (a4, .inr (5, [.ref a13, .int 0, .ref a9, .int 0])), (a9, .inl (G.2 0, 5, .inl (fun _ => 0))), (a5, .inr (1, [.ref a10, .ref a11, .ref a12, .int 0])), (a10, .inl (G.2 0, 180, .inl (fun _ => 0))), (a11, .inl (G.2 0, 180, .inl (fun _ => 0))), (a12, .inl (G.2 0, 180, .inl (fun _ => 0))), (a3, .inr (6, [.ref a6, .ref a7, .ref a8, .int 1, .int 0])), (a2, .inl (G.2 1, 180, .inl (fun _ => 0))), (a6, .inl (G.2 3, 181, .inr (.inr (.inr (.inr (va_up (fun _ => none) (0 : Int32).toNatClampNeg (some (tk 0)))))))), (a7, .inl (G.2 0, 181, .inl (upd (fun _ => 0) (0 : Int32).toNatClampNeg 0))), (a8, .inl (G.2 0, 181, .inl (upd (fun _ => 0) (0 : Int32).toNatClampNeg 0)))] := hD
  refine W.widen (k := 0) (n := 0) (Nat.le_of_ble_eq_true rfl) (Nat.le_of_ble_eq_true rfl) ?_
  refine lv_aload_n hx hb d_Cm_translate_38 rfl (lv_at hl 0 rfl) ?_
  refine lv_iconst (v := 0) hx hb d_Cm_translate_39 (by decide) ?_
  have hPc := hP.sub (ws' := [(a1, .inr (2, [.ref a3, .ref a4, .ref a5, .int 0, .int (-1), .int (-1)])), (a3, .inr (6, [.ref a6, .ref a7, .ref a8, .int 1, .int 0])), (a4, .inr (5, [.ref a13, .int 0, .ref a9, .int 0])), (a5, .inr (1, [.ref a10, .ref a11, .ref a12, .int 0])), (a6, .inl (G.2 3, 181, .inr (.inr (.inr (.inr (va_up (fun _ => none) (0 : Int32).toNatClampNeg (some (tk 0)))))))), (a7, .inl (G.2 0, 181, .inl (upd (fun _ => 0) (0 : Int32).toNatClampNeg 0))), (a8, .inl (G.2 0, 181, .inl (upd (fun _ => 0) (0 : Int32).toNatClampNeg 0))), (a9, .inl (G.2 0, 5, .inl (fun _ => 0))), (a10, .inl (G.2 0, 180, .inl (fun _ => 0))), (a11, .inl (G.2 0, 180, .inl (fun _ => 0))), (a12, .inl (G.2 0, 180, .inl (fun _ => 0)))]) [0, 7, 1, 3, 9, 10, 11, 2, 4, 5, 6] rfl
  have hDc := hD.sub (ws' := [(a1, .inr (2, [.ref a3, .ref a4, .ref a5, .int 0, .int (-1), .int (-1)])), (a3, .inr (6, [.ref a6, .ref a7, .ref a8, .int 1, .int 0])), (a4, .inr (5, [.ref a13, .int 0, .ref a9, .int 0])), (a5, .inr (1, [.ref a10, .ref a11, .ref a12, .int 0])), (a6, .inl (G.2 3, 181, .inr (.inr (.inr (.inr (va_up (fun _ => none) (0 : Int32).toNatClampNeg (some (tk 0)))))))), (a7, .inl (G.2 0, 181, .inl (upd (fun _ => 0) (0 : Int32).toNatClampNeg 0))), (a8, .inl (G.2 0, 181, .inl (upd (fun _ => 0) (0 : Int32).toNatClampNeg 0))), (a9, .inl (G.2 0, 5, .inl (fun _ => 0))), (a10, .inl (G.2 0, 180, .inl (fun _ => 0))), (a11, .inl (G.2 0, 180, .inl (fun _ => 0))), (a12, .inl (G.2 0, 180, .inl (fun _ => 0)))]) [0, 7, 1, 3, 9, 10, 11, 2, 4, 5, 6] (by decide) rfl
  have hFc := va_free (wc := [(a1, .inr (2, [.ref a3, .ref a4, .ref a5, .int 0, .int (-1), .int (-1)])), (a3, .inr (6, [.ref a6, .ref a7, .ref a8, .int 1, .int 0])), (a4, .inr (5, [.ref a13, .int 0, .ref a9, .int 0])), (a5, .inr (1, [.ref a10, .ref a11, .ref a12, .int 0])), (a6, .inl (G.2 3, 181, .inr (.inr (.inr (.inr (va_up (fun _ => none) (0 : Int32).toNatClampNeg (some (tk 0)))))))), (a7, .inl (G.2 0, 181, .inl (upd (fun _ => 0) (0 : Int32).toNatClampNeg 0))), (a8, .inl (G.2 0, 181, .inl (upd (fun _ => 0) (0 : Int32).toNatClampNeg 0))), (a9, .inl (G.2 0, 5, .inl (fun _ => 0))), (a10, .inl (G.2 0, 180, .inl (fun _ => 0))), (a11, .inl (G.2 0, 180, .inl (fun _ => 0))), (a12, .inl (G.2 0, 180, .inl (fun _ => 0)))]) hD hS hA [0, 7, 1, 3, 9, 10, 11, 2, 4, 5, 6] rfl
  exact nt_propV (As := [.int 0]) (rest := []) ⟨hx, hb, hml, hown, hts⟩ (a_Cm_block_1 l hfl G tk _ a1 a3 a4 a5 a6 a7 a8 a9 a10 a11 a12 a13) (cwV 1 hts (nn_gV mw_505 mw_502 mw_504 mw_6 mw_88) rfl rfl rfl (by decide +kernel) ⟨Nat.le_of_ble_eq_true rfl, Nat.le_of_ble_eq_true rfl⟩) (ns_preV (va_recv hK hP rfl (q0 := 0) rfl) hPc hDc hK hN hE hS hFc) rfl hl.1 rfl (lv_room (Nat.le_of_ble_eq_true rfl)) d_Cm_translate_40 ⟨Nat.le_of_ble_eq_true rfl, Nat.le_of_ble_eq_true rfl⟩ hnh hlocks hS.2.2 hFc

theorem mw_397 : (.methodLink R_NP 46 y_Cm_translate : Cond) ∈ nn_gw := nn_at 397 (by decide +kernel) (by decide +kernel)
theorem mw_398 : (.instanceMethod y_Cm_translate : Cond) ∈ nn_gw := nn_at 398 (by decide +kernel) (by decide +kernel)
theorem mw_399 : (.selects R_Cm y_Cm_translate y_Cm_translate : Cond) ∈ nn_gw := nn_at 399 (by decide +kernel) (by decide +kernel)
theorem mw_400 : (.code y_Cm_translate b_Cm_translate 3 none : Cond) ∈ nn_gw := nn_at 400 (by decide +kernel) (by decide +kernel)

set_option maxHeartbeats 4000000 in
set_option maxRecDepth 100000 in
theorem c_NP_compile (l : Launch) (hfl : l.flags = flags0) (G : nn_G) (tk : Nat → Nat) (sz : Nat) (a1 a2 a3 a4 a5 a6 a7 a8 a9 a10 a11 a12 a13 a14 a15 a16 : Nat) : nt_Met l y_NP_compile w_NP_compile ({ frames := 10, cells := 1, slots := 6, locals := 289 }) (ns_P G tk [.ref a1] [(a1, .inr (0, [.ref a2, .int 0, .ref a3, .ref a14, .ref a15])), (a2, .inl (G.2 1, 180, .inl (fun _ => 0))), (a3, .inr (2, [.ref a4, .ref a5, .ref a6, .int 0, .int (-1), .int (-1)])), (a4, .inr (6, [.ref a7, .ref a8, .ref a9, .int 0, .int 0])), (a5, .inr (5, [.ref a16, .int 0, .ref a10, .int 0])), (a6, .inr (1, [.ref a11, .ref a12, .ref a13, .int 0])), (a7, .inl (G.2 3, 181, .inr (.inr (.inr (.inr (fun _ => none)))))), (a8, .inl (G.2 0, 181, .inl (fun _ => 0))), (a9, .inl (G.2 0, 181, .inl (fun _ => 0))), (a10, .inl (G.2 0, 5, .inl (fun _ => 0))), (a11, .inl (G.2 0, 180, .inl (fun _ => 0))), (a12, .inl (G.2 0, 180, .inl (fun _ => 0))), (a13, .inl (G.2 0, 180, .inl (fun _ => 0)))] sz) 1 6 (va_A [(a1, .inr (0, [.ref a2, .int 0, .ref a3, .ref a14, .ref a15])), (a2, .inl (G.2 1, 180, .inl (fun _ => 0))), (a3, .inr (2, [.ref a4, .ref a5, .ref a6, .int 0, .int (-1), .int (-1)])), (a4, .inr (6, [.ref a7, .ref a8, .ref a9, .int 0, .int 0])), (a5, .inr (5, [.ref a16, .int 0, .ref a10, .int 0])), (a6, .inr (1, [.ref a11, .ref a12, .ref a13, .int 0])), (a7, .inl (G.2 3, 181, .inr (.inr (.inr (.inr (fun _ => none)))))), (a8, .inl (G.2 0, 181, .inl (fun _ => 0))), (a9, .inl (G.2 0, 181, .inl (fun _ => 0))), (a10, .inl (G.2 0, 5, .inl (fun _ => 0))), (a11, .inl (G.2 0, 180, .inl (fun _ => 0))), (a12, .inl (G.2 0, 180, .inl (fun _ => 0))), (a13, .inl (G.2 0, 180, .inl (fun _ => 0)))] sz) := by
  refine nt_ofW (cc := b_NP_compile) (maxL := 2) (ret := some .int) (by decide) rfl ?_
  intro p e s m args below meth c s₁ B hml hv
  obtain ⟨rfl, ⟨hsz, hP, hK, hD0, hN⟩, hE⟩ := hv
  have hx := B.exec
  have hb := B.bytes
  have hr := B.returns
  have hts := atoms_spec (ws := w_NP_compile) B.pre
  have hg : ∀ w ∈ nn_gw, w.before _ s = true := fun w h => hts w (List.mem_cons_of_mem _ h)
  have hown : s.vm.findClass R_NP = some m.cls := findClass_of_methodNamed B.named
  have hlocks := B.notSynchronized
  have hnh : c.exceptionTable.isEmpty = true := B.noHandlers (hts _ List.mem_cons_self)
  subst hsz
  have hD := hD0.self (sz := s.heap.size)
  generalize hAe : va_A [(a1, .inr (0, [.ref a2, .int 0, .ref a3, .ref a14, .ref a15])), (a2, .inl (G.2 1, 180, .inl (fun _ => 0))), (a3, .inr (2, [.ref a4, .ref a5, .ref a6, .int 0, .int (-1), .int (-1)])), (a4, .inr (6, [.ref a7, .ref a8, .ref a9, .int 0, .int 0])), (a5, .inr (5, [.ref a16, .int 0, .ref a10, .int 0])), (a6, .inr (1, [.ref a11, .ref a12, .ref a13, .int 0])), (a7, .inl (G.2 3, 181, .inr (.inr (.inr (.inr (fun _ => none)))))), (a8, .inl (G.2 0, 181, .inl (fun _ => 0))), (a9, .inl (G.2 0, 181, .inl (fun _ => 0))), (a10, .inl (G.2 0, 5, .inl (fun _ => 0))), (a11, .inl (G.2 0, 180, .inl (fun _ => 0))), (a12, .inl (G.2 0, 180, .inl (fun _ => 0))), (a13, .inl (G.2 0, 180, .inl (fun _ => 0)))] s.heap.size = A at hD hE ⊢
  have hA : ∀ q : Nat, s.heap.size ≤ q → A q := fun q h => by rw [← hAe]; exact Or.inr h
  have hS : va_S A s.heap s.heap [] := va_S.rf
  have hP : va_P G.1 nn_cls [(a1, .inr (0, [.ref a2, .int 0, .ref a3, .ref a14, .ref a15])), (a2, .inl (G.2 1, 180, .inl (fun _ => 0))), (a3, .inr (2, [.ref a4, .ref a5, .ref a6, .int 0, .int (-1), .int (-1)])), (a4, .inr (6, [.ref a7, .ref a8, .ref a9, .int 0, .int 0])), (a5, .inr (5, [.ref a16, .int 0, .ref a10, .int 0])), (a6, .inr (1, [.ref a11, .ref a12, .ref a13, .int 0])), (a7, .inl (G.2 3, 181, .inr (.inr (.inr (.inr (fun _ => none)))))), (a8, .inl (G.2 0, 181, .inl (fun _ => 0))), (a9, .inl (G.2 0, 181, .inl (fun _ => 0))), (a10, .inl (G.2 0, 5, .inl (fun _ => 0))), (a11, .inl (G.2 0, 180, .inl (fun _ => 0))), (a12, .inl (G.2 0, 180, .inl (fun _ => 0))), (a13, .inl (G.2 0, 180, .inl (fun _ => 0)))] s.heap := hP
  have hP0 := hP
  have hl := lv_entry ([.ref a1]) (n := 2) (Nat.le_of_ble_eq_true rfl)
  rw [lg_entry_eq]
  generalize (lg_sl ([.ref a1]) ++ List.replicate (2 - (lg_sl ([.ref a1])).length) Slot.unset).toArray = ls at hl ⊢
  have hl : lv_has ls 2 [(0, .ref a1)] := hl
  refine lv_aload_n hx hb d_NP_compile_0 rfl (lv_at hl 0 rfl) ?_
  refine va_get (D := G.1) (ci := 0) (v := .int 0) (C := R_NP) (T := T_NP) (N := 5) hx hb hg in_NP hown hK hP 0 rfl rfl 1 (by decide) (hg _ mw_272) (fun _ h9 => h9) rfl d_NP_compile_1 ?_
  refine lv_istore_n (lv' := [(1, .int 0), (0, .ref a1)]) hx hb d_NP_compile_4 rfl hl (by decide) rfl (fun ls hl => ?_)
  refine lv_aload_n hx hb d_NP_compile_5 rfl (lv_at hl 1 rfl) ?_
  refine lv_iconst (v := 0) hx hb d_NP_compile_6 (by decide) ?_
  refine va_put (D := G.1) (ci := 0) (v := .int 0) (ty := .int) (C := R_NP) (T := T_NP) (N := 5) hx hb hg in_NP t_NP ok_NP nm_NP hown hK hP hD hS 0 rfl rfl 1 (by decide) (hg _ mw_272) (fun _ h9 => h9) rfl (by decide +kernel) rfl rfl (Nat.le_of_ble_eq_true rfl) d_NP_compile_7 (fun H locs hP hD hS => ?_)
  have hP : va_P G.1 nn_cls [(a1, .inr (0, [.ref a2, .int 0, .ref a3, .ref a14, .ref a15])), (a2, .inl (G.2 1, 180, .inl (fun _ => 0))), (a3, .inr (2, [.ref a4, .ref a5, .ref a6, .int 0, .int (-1), .int (-1)])), (a4, .inr (6, [.ref a7, .ref a8, .ref a9, .int 0, .int 0])), (a5, .inr (5, [.ref a16, .int 0, .ref a10, .int 0])), (a6, .inr (1, [.ref a11, .ref a12, .ref a13, .int 0])), (a7, .inl (G.2 3, 181, .inr (.inr (.inr (.inr (fun _ => none)))))), (a8, .inl (G.2 0, 181, .inl (fun _ => 0))), (a9, .inl (G.2 0, 181, .inl (fun _ => 0))), (a10, .inl (G.2 0, 5, .inl (fun _ => 0))), (a11, .inl (G.2 0, 180, .inl (fun _ => 0))), (a12, .inl (G.2 0, 180, .inl (fun _ => 0))), (a13, .inl (G.2 0, 180, .inl (fun _ => 0)))] H := hP
  have hD : va_D A [(a1, .inr (0, [.ref a2, .int 0, .ref a3, .ref a14, .ref a15])), (a2, .inl (G.2 1, 180, .inl (fun _ => 0))), (a3, .inr (2, [.ref a4, .ref a5, .ref a6, .int 0, .int (-1), .int (-1)])), (a4, .inr (6, [.ref a7, .ref a8, .ref a9, .int 0, .int 0])), (a5, .inr (5, [.ref a16, .int 0, .ref a10, .int 0])), (a6, .inr (1, [.ref a11, .ref a12, .ref a13, .int 0])), (a7, .inl (G.2 3, 181, .inr (.inr (.inr (.inr (fun _ => none)))))), (a8, .inl (G.2 0, 181, .inl (fun _ => 0))), (a9, .inl (G.2 0, 181, .inl (fun _ => 0))), (a10, .inl (G.2 0, 5, .inl (fun _ => 0))), (a11, .inl (G.2 0, 180, .inl (fun _ => 0))), (a12, .inl (G.2 0, 180, .inl (fun _ => 0))), (a13, .inl (G.2 0, 180, .inl (fun _ => 0)))] := hD
  refine lv_aload_n hx hb d_NP_compile_10 rfl (lv_at hl 1 rfl) ?_
  refine va_get (D := G.1) (ci := 0) (v := .ref a3) (C := R_NP) (T := T_NP) (N := 5) hx hb hg in_NP hown hK hP 0 rfl rfl 2 (by decide) (hg _ mw_273) (fun _ h9 => h9) rfl d_NP_compile_11 ?_
  refine lv_aload_n hx hb d_NP_compile_14 rfl (lv_at hl 1 rfl) ?_
  refine va_get (D := G.1) (ci := 0) (v := .ref a2) (C := R_NP) (T := T_NP) (N := 5) hx hb hg in_NP hown hK hP 0 rfl rfl 0 (by decide) (hg _ mw_271) (fun _ h9 => h9) rfl d_NP_compile_15 ?_
  refine lv_iload_n hx hb d_NP_compile_18 rfl (lv_at hl 0 rfl) ?_
  have hPc := hP.sub (ws' := [(a3, .inr (2, [.ref a4, .ref a5, .ref a6, .int 0, .int (-1), .int (-1)])), (a2, .inl (G.2 1, 180, .inl (fun _ => 0))), (a4, .inr (6, [.ref a7, .ref a8, .ref a9, .int 0, .int 0])), (a5, .inr (5, [.ref a16, .int 0, .ref a10, .int 0])), (a6, .inr (1, [.ref a11, .ref a12, .ref a13, .int 0])), (a7, .inl (G.2 3, 181, .inr (.inr (.inr (.inr (fun _ => none)))))), (a8, .inl (G.2 0, 181, .inl (fun _ => 0))), (a9, .inl (G.2 0, 181, .inl (fun _ => 0))), (a10, .inl (G.2 0, 5, .inl (fun _ => 0))), (a11, .inl (G.2 0, 180, .inl (fun _ => 0))), (a12, .inl (G.2 0, 180, .inl (fun _ => 0))), (a13, .inl (G.2 0, 180, .inl (fun _ => 0)))]) [2, 1, 3, 4, 5, 6, 7, 8, 9, 10, 11, 12] rfl
  have hDc := hD.sub (ws' := [(a3, .inr (2, [.ref a4, .ref a5, .ref a6, .int 0, .int (-1), .int (-1)])), (a2, .inl (G.2 1, 180, .inl (fun _ => 0))), (a4, .inr (6, [.ref a7, .ref a8, .ref a9, .int 0, .int 0])), (a5, .inr (5, [.ref a16, .int 0, .ref a10, .int 0])), (a6, .inr (1, [.ref a11, .ref a12, .ref a13, .int 0])), (a7, .inl (G.2 3, 181, .inr (.inr (.inr (.inr (fun _ => none)))))), (a8, .inl (G.2 0, 181, .inl (fun _ => 0))), (a9, .inl (G.2 0, 181, .inl (fun _ => 0))), (a10, .inl (G.2 0, 5, .inl (fun _ => 0))), (a11, .inl (G.2 0, 180, .inl (fun _ => 0))), (a12, .inl (G.2 0, 180, .inl (fun _ => 0))), (a13, .inl (G.2 0, 180, .inl (fun _ => 0)))]) [2, 1, 3, 4, 5, 6, 7, 8, 9, 10, 11, 12] (by decide) rfl
  have hFc := va_free (wc := [(a3, .inr (2, [.ref a4, .ref a5, .ref a6, .int 0, .int (-1), .int (-1)])), (a2, .inl (G.2 1, 180, .inl (fun _ => 0))), (a4, .inr (6, [.ref a7, .ref a8, .ref a9, .int 0, .int 0])), (a5, .inr (5, [.ref a16, .int 0, .ref a10, .int 0])), (a6, .inr (1, [.ref a11, .ref a12, .ref a13, .int 0])), (a7, .inl (G.2 3, 181, .inr (.inr (.inr (.inr (fun _ => none)))))), (a8, .inl (G.2 0, 181, .inl (fun _ => 0))), (a9, .inl (G.2 0, 181, .inl (fun _ => 0))), (a10, .inl (G.2 0, 5, .inl (fun _ => 0))), (a11, .inl (G.2 0, 180, .inl (fun _ => 0))), (a12, .inl (G.2 0, 180, .inl (fun _ => 0))), (a13, .inl (G.2 0, 180, .inl (fun _ => 0)))]) hD hS hA [2, 1, 3, 4, 5, 6, 7, 8, 9, 10, 11, 12] rfl
  exact nt_propV (As := [.ref a2, .int 0]) (rest := []) ⟨hx, hb, hml, hown, hts⟩ (a_Cm_translate_1 l hfl G tk _ a3 a2 a4 a5 a6 a7 a8 a9 a10 a11 a12 a13 a16) (cwV 2 hts (nn_gV mw_400 mw_397 mw_398 mw_399 mw_88) rfl rfl rfl (by decide +kernel) ⟨Nat.le_of_ble_eq_true rfl, Nat.le_of_ble_eq_true rfl⟩) (ns_preV (va_recv hK hP rfl (q0 := 2) rfl) hPc hDc hK hN hE hS hFc) rfl hl.1 rfl (lv_room (Nat.le_of_ble_eq_true rfl)) d_NP_compile_19 ⟨Nat.le_of_ble_eq_true rfl, Nat.le_of_ble_eq_true rfl⟩ hnh hlocks hS.2.2 hFc
