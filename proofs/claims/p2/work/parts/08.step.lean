/-! contracts (by wip/p1/gen.py) -/
theorem nb_sub1 {a j : Nat} {x : Int32} (hx : x = nI j) (h : j < a) : nI a - 1 - x = nI (a - 1 - j) := by
  rw [hx, show (1 : Int32) = nI 1 from rfl, pk_sub (by omega), pk_sub (by omega)]

theorem d_Co_leadHere_0 : decode b_Co_leadHere 0 = .ok (.aload_n 0, 1) := by decide +kernel
theorem d_Co_leadHere_1 : decode b_Co_leadHere 1 = .ok (.iload_n 1, 1) := by decide +kernel
theorem d_Co_leadHere_2 : decode b_Co_leadHere 2 = .ok (.invokevirtual 25, 3) := by decide +kernel
theorem d_Co_leadHere_5 : decode b_Co_leadHere 5 = .ok (.ifCond .eq 13, 3) := by decide +kernel
theorem d_Co_leadHere_8 : decode b_Co_leadHere 8 = .ok (.aload_n 0, 1) := by decide +kernel
theorem d_Co_leadHere_9 : decode b_Co_leadHere 9 = .ok (.getfield 18, 3) := by decide +kernel
theorem d_Co_leadHere_12 : decode b_Co_leadHere 12 = .ok (.iload_n 1, 1) := by decide +kernel
theorem d_Co_leadHere_13 : decode b_Co_leadHere 13 = .ok (.aload_n 0, 1) := by decide +kernel
theorem d_Co_leadHere_14 : decode b_Co_leadHere 14 = .ok (.getfield 21, 3) := by decide +kernel
theorem d_Co_leadHere_17 : decode b_Co_leadHere 17 = .ok (.iastore, 1) := by decide +kernel
theorem d_Co_leadHere_18 : decode b_Co_leadHere 18 = .ok (.return_, 1) := by decide +kernel

set_option maxHeartbeats 4000000 in
set_option maxRecDepth 100000 in
theorem g_Co_leadHere (l : Launch) (G : nn_G) (sz : Nat) (h1 y1 y2 y3 : Nat) (f1 f2 f3 : Nat → Int32) (n : Nat) (k : Int32) (hn : n ≤ 180) : Met l y_Co_leadHere w_Co_leadHere ({ frames := 1, cells := 0, slots := 0, locals := 21 }) (nn_P G [.ref h1, .int k] [(h1, .inr (1, [.ref y1, .ref y2, .ref y3, .int (nI n)])), (y1, .inl (G.2 0, 180, .inl (f1))), (y2, .inl (G.2 0, 180, .inl (f2))), (y3, .inl (G.2 0, 180, .inl (f3)))] sz) (va_Qv (fun u : (Nat → Int32) × (Nat → Int32) × (Nat → Int32) × Nat => u.2.2.2 = n) (fun u t => va_P G.1 nn_cls [(h1, .inr (1, [.ref y1, .ref y2, .ref y3, .int (nI u.2.2.2)])), (y1, .inl (G.2 0, 180, .inl (u.1))), (y2, .inl (G.2 0, 180, .inl (u.2.1))), (y3, .inl (G.2 0, 180, .inl (u.2.2.1)))] t.heap ∧ va_D (va_A [(h1, .inr (1, [.ref y1, .ref y2, .ref y3, .int (nI n)])), (y1, .inl (G.2 0, 180, .inl (f1))), (y2, .inl (G.2 0, 180, .inl (f2))), (y3, .inl (G.2 0, 180, .inl (f3)))] sz) [(h1, .inr (1, [.ref y1, .ref y2, .ref y3, .int (nI u.2.2.2)])), (y1, .inl (G.2 0, 180, .inl (u.1))), (y2, .inl (G.2 0, 180, .inl (u.2.1))), (y3, .inl (G.2 0, 180, .inl (u.2.2.1)))]) (va_A [(h1, .inr (1, [.ref y1, .ref y2, .ref y3, .int (nI n)])), (y1, .inl (G.2 0, 180, .inl (f1))), (y2, .inl (G.2 0, 180, .inl (f2))), (y3, .inl (G.2 0, 180, .inl (f3)))] sz)) 0 0 (va_A [(h1, .inr (1, [.ref y1, .ref y2, .ref y3, .int (nI n)])), (y1, .inl (G.2 0, 180, .inl (f1))), (y2, .inl (G.2 0, 180, .inl (f2))), (y3, .inl (G.2 0, 180, .inl (f3)))] sz) := by
  refine Met.ofW (cc := b_Co_leadHere) (maxL := 2) (ret := none) (by decide) rfl ?_
  intro p e s m args below meth c s₁ B hml hv
  obtain ⟨rfl, hsz, hP, hK, hD0, hN⟩ := hv
  have hx := B.exec
  have hb := B.bytes
  have hr := B.returns
  have hts := atoms_spec (ws := w_Co_leadHere) B.pre
  have hg : ∀ w ∈ nn_gw, w.before _ s = true := fun w h => hts w (List.mem_cons_of_mem _ h)
  have hown : s.vm.findClass R_Co = some m.cls := findClass_of_methodNamed B.named
  have hlocks := B.notSynchronized
  subst hsz
  have hD := hD0.self (sz := s.heap.size)
  generalize hAe : va_A [(h1, .inr (1, [.ref y1, .ref y2, .ref y3, .int (nI n)])), (y1, .inl (G.2 0, 180, .inl (f1))), (y2, .inl (G.2 0, 180, .inl (f2))), (y3, .inl (G.2 0, 180, .inl (f3)))] s.heap.size = A at hD ⊢
  have hA : ∀ q : Nat, s.heap.size ≤ q → A q := fun q h => by rw [← hAe]; exact Or.inr h
  have hS : va_S A s.heap s.heap [] := va_S.rf
  have hP : va_P G.1 nn_cls [(h1, .inr (1, [.ref y1, .ref y2, .ref y3, .int (nI n)])), (y1, .inl (G.2 0, 180, .inl (f1))), (y2, .inl (G.2 0, 180, .inl (f2))), (y3, .inl (G.2 0, 180, .inl (f3)))] s.heap := hP
  have hl := lv_entry ([.ref h1, .int k]) (n := 2) (Nat.le_of_ble_eq_true rfl)
  rw [lg_entry_eq]
  generalize (lg_sl ([.ref h1, .int k]) ++ List.replicate (2 - (lg_sl ([.ref h1, .int k])).length) Slot.unset).toArray = ls at hl ⊢
  have hl : lv_has ls 2 [(0, .ref h1), (1, .int k)] := hl
  refine lv_aload_n hx hb d_Co_leadHere_0 rfl (lv_at hl 0 rfl) ?_
  refine lv_iload_n hx hb d_Co_leadHere_1 rfl (lv_at hl 1 rfl) ?_
  have hPc := hP.sub (ws' := [(h1, .inr (1, [.ref y1, .ref y2, .ref y3, .int (nI n)])), (y1, .inl (G.2 0, 180, .inl (f1))), (y2, .inl (G.2 0, 180, .inl (f2))), (y3, .inl (G.2 0, 180, .inl (f3)))]) [0, 1, 2, 3] rfl
  have hDc := hD.sub (ws' := [(h1, .inr (1, [.ref y1, .ref y2, .ref y3, .int (nI n)])), (y1, .inl (G.2 0, 180, .inl (f1))), (y2, .inl (G.2 0, 180, .inl (f2))), (y3, .inl (G.2 0, 180, .inl (f3)))]) [0, 1, 2, 3] (by decide) rfl
  refine vp_callSi (va_Run.run (va_runV (As := [.int k]) (rest := []) ⟨hx, hb, hml, hown, hts⟩ (g_Co_isOne l G _ h1 y1 y2 y3 f1 f2 f3 n k hn) (cwV 1 hts (nn_gV mw_325 mw_322 mw_324 mw_1 mw_92) rfl rfl rfl (by decide +kernel) ⟨Nat.le_of_ble_eq_true rfl, Nat.le_of_ble_eq_true rfl⟩) (nn_preV (va_recv hK hP rfl (q0 := 0) rfl) hPc hDc hK hN) rfl rfl hl.1 rfl (lv_room (Nat.le_of_ble_eq_true rfl)) d_Co_leadHere_2 ⟨(Nat.le_of_ble_eq_true rfl), (Nat.le_of_ble_eq_true rfl)⟩)) (fun r1 er1 => ?_)
  refine lv_if_eq (tgt := 18) hx hb d_Co_leadHere_5 rfl (fun hc5 => ?_) (fun hc5 => ?_)
  · skip
    refine W.widen (k := 0) (n := 0) (Nat.le_of_ble_eq_true rfl) (Nat.le_of_ble_eq_true rfl) ?_
    have hP9 := hP.sub (ws' := [(h1, .inr (1, [.ref y1, .ref y2, .ref y3, .int (nI n)])), (y1, .inl (G.2 0, 180, .inl (f1))), (y2, .inl (G.2 0, 180, .inl (f2))), (y3, .inl (G.2 0, 180, .inl (f3)))]) [0, 1, 2, 3] rfl
    have hD9 := hD.sub (ws' := [(h1, .inr (1, [.ref y1, .ref y2, .ref y3, .int (nI n)])), (y1, .inl (G.2 0, 180, .inl (f1))), (y2, .inl (G.2 0, 180, .inl (f2))), (y3, .inl (G.2 0, 180, .inl (f3)))]) [0, 1, 2, 3] (by decide) rfl
    exact W.vret hx hb hr (fun t ht hW => ⟨⟨(f1, f2, f3, n), rfl, rfl, ⟨by rw [ht]; exact hP9, hD9⟩⟩, hS.F ht⟩) hS.2.2 d_Co_leadHere_18
  · skip
    refine lv_aload_n hx hb d_Co_leadHere_8 rfl (lv_at hl 0 rfl) ?_
    refine va_get (D := G.1) (ci := 1) (v := .ref y3) (C := R_Co) (T := T_Co) (N := 4) hx hb hg in_Co hown hK hP 0 rfl rfl 2 (by decide) (hg _ mw_208) (fun _ h9 => h9) rfl d_Co_leadHere_9 ?_
    refine lv_iload_n hx hb d_Co_leadHere_12 rfl (lv_at hl 1 rfl) ?_
    refine lv_aload_n hx hb d_Co_leadHere_13 rfl (lv_at hl 0 rfl) ?_
    refine va_get (D := G.1) (ci := 1) (v := .int (nI n)) (C := R_Co) (T := T_Co) (N := 4) hx hb hg in_Co hown hK hP 0 rfl rfl 3 (by decide) (hg _ mw_209) (fun _ h9 => h9) rfl d_Co_leadHere_14 ?_
    refine va_iast hx hb hK hP hD hS 3 0 rfl rfl (nb_mono (er1.resolve_left hc5).2 hn) d_Co_leadHere_17 (fun H locs hP hD hS => ?_)
    have hP : va_P G.1 nn_cls [(h1, .inr (1, [.ref y1, .ref y2, .ref y3, .int (nI n)])), (y1, .inl (G.2 0, 180, .inl (f1))), (y2, .inl (G.2 0, 180, .inl (f2))), (y3, .inl (G.2 0, 180, .inl (upd (f3) k.toNatClampNeg (nI n))))] H := hP
    have hD : va_D A [(h1, .inr (1, [.ref y1, .ref y2, .ref y3, .int (nI n)])), (y1, .inl (G.2 0, 180, .inl (f1))), (y2, .inl (G.2 0, 180, .inl (f2))), (y3, .inl (G.2 0, 180, .inl (upd (f3) k.toNatClampNeg (nI n))))] := hD
    refine W.widen (k := 0) (n := 0) (Nat.le_of_ble_eq_true rfl) (Nat.le_of_ble_eq_true rfl) ?_
    have hP9 := hP.sub (ws' := [(h1, .inr (1, [.ref y1, .ref y2, .ref y3, .int (nI n)])), (y1, .inl (G.2 0, 180, .inl (f1))), (y2, .inl (G.2 0, 180, .inl (f2))), (y3, .inl (G.2 0, 180, .inl (upd (f3) k.toNatClampNeg (nI n))))]) [0, 1, 2, 3] rfl
    have hD9 := hD.sub (ws' := [(h1, .inr (1, [.ref y1, .ref y2, .ref y3, .int (nI n)])), (y1, .inl (G.2 0, 180, .inl (f1))), (y2, .inl (G.2 0, 180, .inl (f2))), (y3, .inl (G.2 0, 180, .inl (upd (f3) k.toNatClampNeg (nI n))))]) [0, 1, 2, 3] (by decide) rfl
    exact W.vret hx hb hr (fun t ht hW => ⟨⟨(f1, f2, (upd (f3) k.toNatClampNeg (nI n)), n), rfl, rfl, ⟨by rw [ht]; exact hP9, hD9⟩⟩, hS.F ht⟩) hS.2.2 d_Co_leadHere_18

theorem mw_107 : (.initialized "java/lang/System" : Cond) ∈ nn_gw := nn_at 107 (by decide +kernel) (by decide +kernel)
theorem mw_813 : (.methodLink R_Co 29 ⟨"java/lang/System", "arraycopy", "(Ljava/lang/Object;ILjava/lang/Object;II)V"⟩ : Cond) ∈ nn_gw := nn_at 813 (by decide +kernel) (by decide +kernel)
theorem mw_814 : (.static ⟨"java/lang/System", "arraycopy", "(Ljava/lang/Object;ILjava/lang/Object;II)V"⟩ : Cond) ∈ nn_gw := nn_at 814 (by decide +kernel) (by decide +kernel)
theorem mw_815 : (.native ⟨"java/lang/System", "arraycopy", "(Ljava/lang/Object;ILjava/lang/Object;II)V"⟩ : Cond) ∈ nn_gw := nn_at 815 (by decide +kernel) (by decide +kernel)
theorem d_Co_takeOver_0 : decode b_Co_takeOver 0 = .ok (.aload_n 0, 1) := by decide +kernel
theorem d_Co_takeOver_1 : decode b_Co_takeOver 1 = .ok (.aload_n 1, 1) := by decide +kernel
theorem d_Co_takeOver_2 : decode b_Co_takeOver 2 = .ok (.getfield 21, 3) := by decide +kernel
theorem d_Co_takeOver_5 : decode b_Co_takeOver 5 = .ok (.putfield 21, 3) := by decide +kernel
theorem d_Co_takeOver_8 : decode b_Co_takeOver 8 = .ok (.aload_n 1, 1) := by decide +kernel
theorem d_Co_takeOver_9 : decode b_Co_takeOver 9 = .ok (.getfield 11, 3) := by decide +kernel
theorem d_Co_takeOver_12 : decode b_Co_takeOver 12 = .ok (.iconst 0, 1) := by decide +kernel
theorem d_Co_takeOver_13 : decode b_Co_takeOver 13 = .ok (.aload_n 0, 1) := by decide +kernel
theorem d_Co_takeOver_14 : decode b_Co_takeOver 14 = .ok (.getfield 11, 3) := by decide +kernel
theorem d_Co_takeOver_17 : decode b_Co_takeOver 17 = .ok (.iconst 0, 1) := by decide +kernel
theorem d_Co_takeOver_18 : decode b_Co_takeOver 18 = .ok (.aload_n 0, 1) := by decide +kernel
theorem d_Co_takeOver_19 : decode b_Co_takeOver 19 = .ok (.getfield 21, 3) := by decide +kernel
theorem d_Co_takeOver_22 : decode b_Co_takeOver 22 = .ok (.invokestatic 29, 3) := by decide +kernel
theorem d_Co_takeOver_25 : decode b_Co_takeOver 25 = .ok (.aload_n 1, 1) := by decide +kernel
theorem d_Co_takeOver_26 : decode b_Co_takeOver 26 = .ok (.getfield 15, 3) := by decide +kernel
theorem d_Co_takeOver_29 : decode b_Co_takeOver 29 = .ok (.iconst 0, 1) := by decide +kernel
theorem d_Co_takeOver_30 : decode b_Co_takeOver 30 = .ok (.aload_n 0, 1) := by decide +kernel
theorem d_Co_takeOver_31 : decode b_Co_takeOver 31 = .ok (.getfield 15, 3) := by decide +kernel
theorem d_Co_takeOver_34 : decode b_Co_takeOver 34 = .ok (.iconst 0, 1) := by decide +kernel
theorem d_Co_takeOver_35 : decode b_Co_takeOver 35 = .ok (.aload_n 0, 1) := by decide +kernel
theorem d_Co_takeOver_36 : decode b_Co_takeOver 36 = .ok (.getfield 21, 3) := by decide +kernel
theorem d_Co_takeOver_39 : decode b_Co_takeOver 39 = .ok (.invokestatic 29, 3) := by decide +kernel
theorem d_Co_takeOver_42 : decode b_Co_takeOver 42 = .ok (.aload_n 1, 1) := by decide +kernel
theorem d_Co_takeOver_43 : decode b_Co_takeOver 43 = .ok (.getfield 18, 3) := by decide +kernel
theorem d_Co_takeOver_46 : decode b_Co_takeOver 46 = .ok (.iconst 0, 1) := by decide +kernel
theorem d_Co_takeOver_47 : decode b_Co_takeOver 47 = .ok (.aload_n 0, 1) := by decide +kernel
theorem d_Co_takeOver_48 : decode b_Co_takeOver 48 = .ok (.getfield 18, 3) := by decide +kernel
theorem d_Co_takeOver_51 : decode b_Co_takeOver 51 = .ok (.iconst 0, 1) := by decide +kernel
theorem d_Co_takeOver_52 : decode b_Co_takeOver 52 = .ok (.aload_n 0, 1) := by decide +kernel
theorem d_Co_takeOver_53 : decode b_Co_takeOver 53 = .ok (.getfield 21, 3) := by decide +kernel
theorem d_Co_takeOver_56 : decode b_Co_takeOver 56 = .ok (.invokestatic 29, 3) := by decide +kernel
theorem d_Co_takeOver_59 : decode b_Co_takeOver 59 = .ok (.return_, 1) := by decide +kernel

set_option maxHeartbeats 4000000 in
set_option maxRecDepth 100000 in
theorem g_Co_takeOver (l : Launch) (G : nn_G) (sz : Nat) (h1 y1 y2 y3 : Nat) (f1 f2 f3 : Nat → Int32) (n : Nat) (h2 z1 z2 z3 : Nat) (g1 g2 g3 : Nat → Int32) (k : Nat) (hk : k ≤ 180) : Met l y_Co_takeOver w_Co_takeOver ({ frames := 1, cells := 0, slots := 0, locals := 40 }) (nn_P G [.ref h1, .ref h2] [(h1, .inr (1, [.ref y1, .ref y2, .ref y3, .int (nI n)])), (y1, .inl (G.2 0, 180, .inl (f1))), (y2, .inl (G.2 0, 180, .inl (f2))), (y3, .inl (G.2 0, 180, .inl (f3))), (h2, .inr (1, [.ref z1, .ref z2, .ref z3, .int (nI k)])), (z1, .inl (G.2 0, 180, .inl (g1))), (z2, .inl (G.2 0, 180, .inl (g2))), (z3, .inl (G.2 0, 180, .inl (g3)))] sz) (va_Qv (fun u : (Nat → Int32) × (Nat → Int32) × (Nat → Int32) × Nat => u.2.2.2 = k) (fun u t => va_P G.1 nn_cls [(h1, .inr (1, [.ref y1, .ref y2, .ref y3, .int (nI u.2.2.2)])), (y1, .inl (G.2 0, 180, .inl (u.1))), (y2, .inl (G.2 0, 180, .inl (u.2.1))), (y3, .inl (G.2 0, 180, .inl (u.2.2.1))), (h2, .inr (1, [.ref z1, .ref z2, .ref z3, .int (nI k)])), (z1, .inl (G.2 0, 180, .inl (g1))), (z2, .inl (G.2 0, 180, .inl (g2))), (z3, .inl (G.2 0, 180, .inl (g3)))] t.heap ∧ va_D (va_A [(h1, .inr (1, [.ref y1, .ref y2, .ref y3, .int (nI n)])), (y1, .inl (G.2 0, 180, .inl (f1))), (y2, .inl (G.2 0, 180, .inl (f2))), (y3, .inl (G.2 0, 180, .inl (f3))), (h2, .inr (1, [.ref z1, .ref z2, .ref z3, .int (nI k)])), (z1, .inl (G.2 0, 180, .inl (g1))), (z2, .inl (G.2 0, 180, .inl (g2))), (z3, .inl (G.2 0, 180, .inl (g3)))] sz) [(h1, .inr (1, [.ref y1, .ref y2, .ref y3, .int (nI u.2.2.2)])), (y1, .inl (G.2 0, 180, .inl (u.1))), (y2, .inl (G.2 0, 180, .inl (u.2.1))), (y3, .inl (G.2 0, 180, .inl (u.2.2.1))), (h2, .inr (1, [.ref z1, .ref z2, .ref z3, .int (nI k)])), (z1, .inl (G.2 0, 180, .inl (g1))), (z2, .inl (G.2 0, 180, .inl (g2))), (z3, .inl (G.2 0, 180, .inl (g3)))]) (va_A [(h1, .inr (1, [.ref y1, .ref y2, .ref y3, .int (nI n)])), (y1, .inl (G.2 0, 180, .inl (f1))), (y2, .inl (G.2 0, 180, .inl (f2))), (y3, .inl (G.2 0, 180, .inl (f3))), (h2, .inr (1, [.ref z1, .ref z2, .ref z3, .int (nI k)])), (z1, .inl (G.2 0, 180, .inl (g1))), (z2, .inl (G.2 0, 180, .inl (g2))), (z3, .inl (G.2 0, 180, .inl (g3)))] sz)) 0 0 (va_A [(h1, .inr (1, [.ref y1, .ref y2, .ref y3, .int (nI n)])), (y1, .inl (G.2 0, 180, .inl (f1))), (y2, .inl (G.2 0, 180, .inl (f2))), (y3, .inl (G.2 0, 180, .inl (f3))), (h2, .inr (1, [.ref z1, .ref z2, .ref z3, .int (nI k)])), (z1, .inl (G.2 0, 180, .inl (g1))), (z2, .inl (G.2 0, 180, .inl (g2))), (z3, .inl (G.2 0, 180, .inl (g3)))] sz) := by
  refine Met.ofW (cc := b_Co_takeOver) (maxL := 2) (ret := none) (by decide) rfl ?_
  intro p e s m args below meth c s₁ B hml hv
  obtain ⟨rfl, hsz, hP, hK, hD0, hN⟩ := hv
  have hx := B.exec
  have hb := B.bytes
  have hr := B.returns
  have hts := atoms_spec (ws := w_Co_takeOver) B.pre
  have hg : ∀ w ∈ nn_gw, w.before _ s = true := fun w h => hts w (List.mem_cons_of_mem _ h)
  have hown : s.vm.findClass R_Co = some m.cls := findClass_of_methodNamed B.named
  have hlocks := B.notSynchronized
  subst hsz
  have hD := hD0.self (sz := s.heap.size)
  generalize hAe : va_A [(h1, .inr (1, [.ref y1, .ref y2, .ref y3, .int (nI n)])), (y1, .inl (G.2 0, 180, .inl (f1))), (y2, .inl (G.2 0, 180, .inl (f2))), (y3, .inl (G.2 0, 180, .inl (f3))), (h2, .inr (1, [.ref z1, .ref z2, .ref z3, .int (nI k)])), (z1, .inl (G.2 0, 180, .inl (g1))), (z2, .inl (G.2 0, 180, .inl (g2))), (z3, .inl (G.2 0, 180, .inl (g3)))] s.heap.size = A at hD ⊢
  have hA : ∀ q : Nat, s.heap.size ≤ q → A q := fun q h => by rw [← hAe]; exact Or.inr h
  have hS : va_S A s.heap s.heap [] := va_S.rf
  have hP : va_P G.1 nn_cls [(h1, .inr (1, [.ref y1, .ref y2, .ref y3, .int (nI n)])), (y1, .inl (G.2 0, 180, .inl (f1))), (y2, .inl (G.2 0, 180, .inl (f2))), (y3, .inl (G.2 0, 180, .inl (f3))), (h2, .inr (1, [.ref z1, .ref z2, .ref z3, .int (nI k)])), (z1, .inl (G.2 0, 180, .inl (g1))), (z2, .inl (G.2 0, 180, .inl (g2))), (z3, .inl (G.2 0, 180, .inl (g3)))] s.heap := hP
  have hl := lv_entry ([.ref h1, .ref h2]) (n := 2) (Nat.le_of_ble_eq_true rfl)
  rw [lg_entry_eq]
  generalize (lg_sl ([.ref h1, .ref h2]) ++ List.replicate (2 - (lg_sl ([.ref h1, .ref h2])).length) Slot.unset).toArray = ls at hl ⊢
  have hl : lv_has ls 2 [(0, .ref h1), (1, .ref h2)] := hl
  refine lv_aload_n hx hb d_Co_takeOver_0 rfl (lv_at hl 0 rfl) ?_
  refine lv_aload_n hx hb d_Co_takeOver_1 rfl (lv_at hl 1 rfl) ?_
  refine va_get (D := G.1) (ci := 1) (v := .int (nI k)) (C := R_Co) (T := T_Co) (N := 4) hx hb hg in_Co hown hK hP 4 rfl rfl 3 (by decide) (hg _ mw_209) (fun _ h9 => h9) rfl d_Co_takeOver_2 ?_
  refine va_put (D := G.1) (ci := 1) (v := .int (nI k)) (ty := .int) (C := R_Co) (T := T_Co) (N := 4) hx hb hg in_Co t_Co ok_Co nm_Co hown hK hP hD hS 0 rfl rfl 3 (by decide) (hg _ mw_209) (fun _ h9 => h9) rfl (by decide +kernel) rfl rfl (Nat.le_of_ble_eq_true rfl) d_Co_takeOver_5 (fun H locs hP hD hS => ?_)
  have hP : va_P G.1 nn_cls [(h1, .inr (1, [.ref y1, .ref y2, .ref y3, .int (nI k)])), (y1, .inl (G.2 0, 180, .inl (f1))), (y2, .inl (G.2 0, 180, .inl (f2))), (y3, .inl (G.2 0, 180, .inl (f3))), (h2, .inr (1, [.ref z1, .ref z2, .ref z3, .int (nI k)])), (z1, .inl (G.2 0, 180, .inl (g1))), (z2, .inl (G.2 0, 180, .inl (g2))), (z3, .inl (G.2 0, 180, .inl (g3)))] H := hP
  have hD : va_D A [(h1, .inr (1, [.ref y1, .ref y2, .ref y3, .int (nI k)])), (y1, .inl (G.2 0, 180, .inl (f1))), (y2, .inl (G.2 0, 180, .inl (f2))), (y3, .inl (G.2 0, 180, .inl (f3))), (h2, .inr (1, [.ref z1, .ref z2, .ref z3, .int (nI k)])), (z1, .inl (G.2 0, 180, .inl (g1))), (z2, .inl (G.2 0, 180, .inl (g2))), (z3, .inl (G.2 0, 180, .inl (g3)))] := hD
  refine lv_aload_n hx hb d_Co_takeOver_8 rfl (lv_at hl 1 rfl) ?_
  refine va_get (D := G.1) (ci := 1) (v := .ref z1) (C := R_Co) (T := T_Co) (N := 4) hx hb hg in_Co hown hK hP 4 rfl rfl 0 (by decide) (hg _ mw_206) (fun _ h9 => h9) rfl d_Co_takeOver_9 ?_
  refine lv_iconst (v := 0) hx hb d_Co_takeOver_12 (by decide) ?_
  refine lv_aload_n hx hb d_Co_takeOver_13 rfl (lv_at hl 0 rfl) ?_
  refine va_get (D := G.1) (ci := 1) (v := .ref y1) (C := R_Co) (T := T_Co) (N := 4) hx hb hg in_Co hown hK hP 0 rfl rfl 0 (by decide) (hg _ mw_206) (fun _ h9 => h9) rfl d_Co_takeOver_14 ?_
  refine lv_iconst (v := 0) hx hb d_Co_takeOver_17 (by decide) ?_
  refine lv_aload_n hx hb d_Co_takeOver_18 rfl (lv_at hl 0 rfl) ?_
  refine va_get (D := G.1) (ci := 1) (v := .int (nI k)) (C := R_Co) (T := T_Co) (N := 4) hx hb hg in_Co hown hK hP 0 rfl rfl 3 (by decide) (hg _ mw_209) (fun _ h9 => h9) rfl d_Co_takeOver_19 ?_
  refine va_copyi hx hb (hml.trans hl.1.symm) hown (hg _ mw_813) (hg _ mw_815) (hg _ mw_814) (hg _ mw_107) hK hP hD hS 5 1 0 0 rfl rfl rfl rfl rfl (by decide) (by decide) (nI_pos (by omega)) (by rw [nI_clamp (by omega)]; show 0 + _ ≤ 180; omega) (by rw [nI_clamp (by omega)]; show 0 + _ ≤ 180; omega) (fun _ _ => rfl) (Nat.le_of_ble_eq_true rfl) (Nat.le_of_ble_eq_true rfl) d_Co_takeOver_22 (fun H locs hP hD hS => ?_)
  have hP : va_P G.1 nn_cls [(h1, .inr (1, [.ref y1, .ref y2, .ref y3, .int (nI k)])), (y1, .inl (G.2 0, 180, .inl (va_cpy g1 f1 (0 : Int32).toNatClampNeg (0 : Int32).toNatClampNeg (nI k).toNatClampNeg))), (y2, .inl (G.2 0, 180, .inl (f2))), (y3, .inl (G.2 0, 180, .inl (f3))), (h2, .inr (1, [.ref z1, .ref z2, .ref z3, .int (nI k)])), (z1, .inl (G.2 0, 180, .inl (g1))), (z2, .inl (G.2 0, 180, .inl (g2))), (z3, .inl (G.2 0, 180, .inl (g3)))] H := hP
  have hD : va_D A [(h1, .inr (1, [.ref y1, .ref y2, .ref y3, .int (nI k)])), (y1, .inl (G.2 0, 180, .inl (va_cpy g1 f1 (0 : Int32).toNatClampNeg (0 : Int32).toNatClampNeg (nI k).toNatClampNeg))), (y2, .inl (G.2 0, 180, .inl (f2))), (y3, .inl (G.2 0, 180, .inl (f3))), (h2, .inr (1, [.ref z1, .ref z2, .ref z3, .int (nI k)])), (z1, .inl (G.2 0, 180, .inl (g1))), (z2, .inl (G.2 0, 180, .inl (g2))), (z3, .inl (G.2 0, 180, .inl (g3)))] := hD
  refine lv_aload_n hx hb d_Co_takeOver_25 rfl (lv_at hl 1 rfl) ?_
  refine va_get (D := G.1) (ci := 1) (v := .ref z2) (C := R_Co) (T := T_Co) (N := 4) hx hb hg in_Co hown hK hP 4 rfl rfl 1 (by decide) (hg _ mw_207) (fun _ h9 => h9) rfl d_Co_takeOver_26 ?_
  refine lv_iconst (v := 0) hx hb d_Co_takeOver_29 (by decide) ?_
  refine lv_aload_n hx hb d_Co_takeOver_30 rfl (lv_at hl 0 rfl) ?_
  refine va_get (D := G.1) (ci := 1) (v := .ref y2) (C := R_Co) (T := T_Co) (N := 4) hx hb hg in_Co hown hK hP 0 rfl rfl 1 (by decide) (hg _ mw_207) (fun _ h9 => h9) rfl d_Co_takeOver_31 ?_
  refine lv_iconst (v := 0) hx hb d_Co_takeOver_34 (by decide) ?_
  refine lv_aload_n hx hb d_Co_takeOver_35 rfl (lv_at hl 0 rfl) ?_
  refine va_get (D := G.1) (ci := 1) (v := .int (nI k)) (C := R_Co) (T := T_Co) (N := 4) hx hb hg in_Co hown hK hP 0 rfl rfl 3 (by decide) (hg _ mw_209) (fun _ h9 => h9) rfl d_Co_takeOver_36 ?_
  refine va_copyi hx hb (hml.trans hl.1.symm) hown (hg _ mw_813) (hg _ mw_815) (hg _ mw_814) (hg _ mw_107) hK hP hD hS 6 2 0 0 rfl rfl rfl rfl rfl (by decide) (by decide) (nI_pos (by omega)) (by rw [nI_clamp (by omega)]; show 0 + _ ≤ 180; omega) (by rw [nI_clamp (by omega)]; show 0 + _ ≤ 180; omega) (fun _ _ => rfl) (Nat.le_of_ble_eq_true rfl) (Nat.le_of_ble_eq_true rfl) d_Co_takeOver_39 (fun H locs hP hD hS => ?_)
  have hP : va_P G.1 nn_cls [(h1, .inr (1, [.ref y1, .ref y2, .ref y3, .int (nI k)])), (y1, .inl (G.2 0, 180, .inl (va_cpy g1 f1 (0 : Int32).toNatClampNeg (0 : Int32).toNatClampNeg (nI k).toNatClampNeg))), (y2, .inl (G.2 0, 180, .inl (va_cpy g2 f2 (0 : Int32).toNatClampNeg (0 : Int32).toNatClampNeg (nI k).toNatClampNeg))), (y3, .inl (G.2 0, 180, .inl (f3))), (h2, .inr (1, [.ref z1, .ref z2, .ref z3, .int (nI k)])), (z1, .inl (G.2 0, 180, .inl (g1))), (z2, .inl (G.2 0, 180, .inl (g2))), (z3, .inl (G.2 0, 180, .inl (g3)))] H := hP
  have hD : va_D A [(h1, .inr (1, [.ref y1, .ref y2, .ref y3, .int (nI k)])), (y1, .inl (G.2 0, 180, .inl (va_cpy g1 f1 (0 : Int32).toNatClampNeg (0 : Int32).toNatClampNeg (nI k).toNatClampNeg))), (y2, .inl (G.2 0, 180, .inl (va_cpy g2 f2 (0 : Int32).toNatClampNeg (0 : Int32).toNatClampNeg (nI k).toNatClampNeg))), (y3, .inl (G.2 0, 180, .inl (f3))), (h2, .inr (1, [.ref z1, .ref z2, .ref z3, .int (nI k)])), (z1, .inl (G.2 0, 180, .inl (g1))), (z2, .inl (G.2 0, 180, .inl (g2))), (z3, .inl (G.2 0, 180, .inl (g3)))] := hD
  refine lv_aload_n hx hb d_Co_takeOver_42 rfl (lv_at hl 1 rfl) ?_
  refine va_get (D := G.1) (ci := 1) (v := .ref z3) (C := R_Co) (T := T_Co) (N := 4) hx hb hg in_Co hown hK hP 4 rfl rfl 2 (by decide) (hg _ mw_208) (fun _ h9 => h9) rfl d_Co_takeOver_43 ?_
  refine lv_iconst (v := 0) hx hb d_Co_takeOver_46 (by decide) ?_
  refine lv_aload_n hx hb d_Co_takeOver_47 rfl (lv_at hl 0 rfl) ?_
  refine va_get (D := G.1) (ci := 1) (v := .ref y3) (C := R_Co) (T := T_Co) (N := 4) hx hb hg in_Co hown hK hP 0 rfl rfl 2 (by decide) (hg _ mw_208) (fun _ h9 => h9) rfl d_Co_takeOver_48 ?_
  refine lv_iconst (v := 0) hx hb d_Co_takeOver_51 (by decide) ?_
  refine lv_aload_n hx hb d_Co_takeOver_52 rfl (lv_at hl 0 rfl) ?_
  refine va_get (D := G.1) (ci := 1) (v := .int (nI k)) (C := R_Co) (T := T_Co) (N := 4) hx hb hg in_Co hown hK hP 0 rfl rfl 3 (by decide) (hg _ mw_209) (fun _ h9 => h9) rfl d_Co_takeOver_53 ?_
  refine va_copyi hx hb (hml.trans hl.1.symm) hown (hg _ mw_813) (hg _ mw_815) (hg _ mw_814) (hg _ mw_107) hK hP hD hS 7 3 0 0 rfl rfl rfl rfl rfl (by decide) (by decide) (nI_pos (by omega)) (by rw [nI_clamp (by omega)]; show 0 + _ ≤ 180; omega) (by rw [nI_clamp (by omega)]; show 0 + _ ≤ 180; omega) (fun _ _ => rfl) (Nat.le_of_ble_eq_true rfl) (Nat.le_of_ble_eq_true rfl) d_Co_takeOver_56 (fun H locs hP hD hS => ?_)
  have hP : va_P G.1 nn_cls [(h1, .inr (1, [.ref y1, .ref y2, .ref y3, .int (nI k)])), (y1, .inl (G.2 0, 180, .inl (va_cpy g1 f1 (0 : Int32).toNatClampNeg (0 : Int32).toNatClampNeg (nI k).toNatClampNeg))), (y2, .inl (G.2 0, 180, .inl (va_cpy g2 f2 (0 : Int32).toNatClampNeg (0 : Int32).toNatClampNeg (nI k).toNatClampNeg))), (y3, .inl (G.2 0, 180, .inl (va_cpy g3 f3 (0 : Int32).toNatClampNeg (0 : Int32).toNatClampNeg (nI k).toNatClampNeg))), (h2, .inr (1, [.ref z1, .ref z2, .ref z3, .int (nI k)])), (z1, .inl (G.2 0, 180, .inl (g1))), (z2, .inl (G.2 0, 180, .inl (g2))), (z3, .inl (G.2 0, 180, .inl (g3)))] H := hP
  have hD : va_D A [(h1, .inr (1, [.ref y1, .ref y2, .ref y3, .int (nI k)])), (y1, .inl (G.2 0, 180, .inl (va_cpy g1 f1 (0 : Int32).toNatClampNeg (0 : Int32).toNatClampNeg (nI k).toNatClampNeg))), (y2, .inl (G.2 0, 180, .inl (va_cpy g2 f2 (0 : Int32).toNatClampNeg (0 : Int32).toNatClampNeg (nI k).toNatClampNeg))), (y3, .inl (G.2 0, 180, .inl (va_cpy g3 f3 (0 : Int32).toNatClampNeg (0 : Int32).toNatClampNeg (nI k).toNatClampNeg))), (h2, .inr (1, [.ref z1, .ref z2, .ref z3, .int (nI k)])), (z1, .inl (G.2 0, 180, .inl (g1))), (z2, .inl (G.2 0, 180, .inl (g2))), (z3, .inl (G.2 0, 180, .inl (g3)))] := hD
  refine W.widen (k := 0) (n := 0) (Nat.le_of_ble_eq_true rfl) (Nat.le_of_ble_eq_true rfl) ?_
  have hP9 := hP.sub (ws' := [(h1, .inr (1, [.ref y1, .ref y2, .ref y3, .int (nI k)])), (y1, .inl (G.2 0, 180, .inl (va_cpy g1 f1 (0 : Int32).toNatClampNeg (0 : Int32).toNatClampNeg (nI k).toNatClampNeg))), (y2, .inl (G.2 0, 180, .inl (va_cpy g2 f2 (0 : Int32).toNatClampNeg (0 : Int32).toNatClampNeg (nI k).toNatClampNeg))), (y3, .inl (G.2 0, 180, .inl (va_cpy g3 f3 (0 : Int32).toNatClampNeg (0 : Int32).toNatClampNeg (nI k).toNatClampNeg)))]) [0, 1, 2, 3] rfl
  have hD9 := hD.sub (ws' := [(h1, .inr (1, [.ref y1, .ref y2, .ref y3, .int (nI k)])), (y1, .inl (G.2 0, 180, .inl (va_cpy g1 f1 (0 : Int32).toNatClampNeg (0 : Int32).toNatClampNeg (nI k).toNatClampNeg))), (y2, .inl (G.2 0, 180, .inl (va_cpy g2 f2 (0 : Int32).toNatClampNeg (0 : Int32).toNatClampNeg (nI k).toNatClampNeg))), (y3, .inl (G.2 0, 180, .inl (va_cpy g3 f3 (0 : Int32).toNatClampNeg (0 : Int32).toNatClampNeg (nI k).toNatClampNeg)))]) [0, 1, 2, 3] (by decide) rfl
  have hP9 := hP.sub (ws' := [(h1, .inr (1, [.ref y1, .ref y2, .ref y3, .int (nI k)])), (y1, .inl (G.2 0, 180, .inl (va_cpy g1 f1 (0 : Int32).toNatClampNeg (0 : Int32).toNatClampNeg (nI k).toNatClampNeg))), (y2, .inl (G.2 0, 180, .inl (va_cpy g2 f2 (0 : Int32).toNatClampNeg (0 : Int32).toNatClampNeg (nI k).toNatClampNeg))), (y3, .inl (G.2 0, 180, .inl (va_cpy g3 f3 (0 : Int32).toNatClampNeg (0 : Int32).toNatClampNeg (nI k).toNatClampNeg))), (h2, .inr (1, [.ref z1, .ref z2, .ref z3, .int (nI k)])), (z1, .inl (G.2 0, 180, .inl (g1))), (z2, .inl (G.2 0, 180, .inl (g2))), (z3, .inl (G.2 0, 180, .inl (g3)))]) [0, 1, 2, 3, 4, 5, 6, 7] rfl
  have hD9 := hD.sub (ws' := [(h1, .inr (1, [.ref y1, .ref y2, .ref y3, .int (nI k)])), (y1, .inl (G.2 0, 180, .inl (va_cpy g1 f1 (0 : Int32).toNatClampNeg (0 : Int32).toNatClampNeg (nI k).toNatClampNeg))), (y2, .inl (G.2 0, 180, .inl (va_cpy g2 f2 (0 : Int32).toNatClampNeg (0 : Int32).toNatClampNeg (nI k).toNatClampNeg))), (y3, .inl (G.2 0, 180, .inl (va_cpy g3 f3 (0 : Int32).toNatClampNeg (0 : Int32).toNatClampNeg (nI k).toNatClampNeg))), (h2, .inr (1, [.ref z1, .ref z2, .ref z3, .int (nI k)])), (z1, .inl (G.2 0, 180, .inl (g1))), (z2, .inl (G.2 0, 180, .inl (g2))), (z3, .inl (G.2 0, 180, .inl (g3)))]) [0, 1, 2, 3, 4, 5, 6, 7] (by decide) rfl
  exact W.vret hx hb hr (fun t ht hW => ⟨⟨((va_cpy g1 f1 (0 : Int32).toNatClampNeg (0 : Int32).toNatClampNeg (nI k).toNatClampNeg), (va_cpy g2 f2 (0 : Int32).toNatClampNeg (0 : Int32).toNatClampNeg (nI k).toNatClampNeg), (va_cpy g3 f3 (0 : Int32).toNatClampNeg (0 : Int32).toNatClampNeg (nI k).toNatClampNeg), k), rfl, rfl, ⟨by rw [ht]; exact hP9, hD9⟩⟩, hS.F ht⟩) hS.2.2 d_Co_takeOver_59

theorem mw_35 : (.selects R_Ma y_Ma_refusal y_Ma_refusal : Cond) ∈ nn_gw := nn_at 35 (by decide +kernel) (by decide +kernel)
theorem mw_37 : (.selects R_Ma y_Ma_perform y_Ma_perform : Cond) ∈ nn_gw := nn_at 37 (by decide +kernel) (by decide +kernel)
theorem mw_319 : (.instanceMethod y_Co_operation : Cond) ∈ nn_gw := nn_at 319 (by decide +kernel) (by decide +kernel)
theorem mw_320 : (.selects R_Co y_Co_operation y_Co_operation : Cond) ∈ nn_gw := nn_at 320 (by decide +kernel) (by decide +kernel)
theorem mw_321 : (.code y_Co_operation b_Co_operation 2 (some .int) : Cond) ∈ nn_gw := nn_at 321 (by decide +kernel) (by decide +kernel)
theorem mw_327 : (.instanceMethod y_Co_links : Cond) ∈ nn_gw := nn_at 327 (by decide +kernel) (by decide +kernel)
theorem mw_328 : (.selects R_Co y_Co_links y_Co_links : Cond) ∈ nn_gw := nn_at 328 (by decide +kernel) (by decide +kernel)
theorem mw_329 : (.code y_Co_links b_Co_links 2 (some .int) : Cond) ∈ nn_gw := nn_at 329 (by decide +kernel) (by decide +kernel)
theorem mw_331 : (.instanceMethod y_Co_operand : Cond) ∈ nn_gw := nn_at 331 (by decide +kernel) (by decide +kernel)
theorem mw_332 : (.selects R_Co y_Co_operand y_Co_operand : Cond) ∈ nn_gw := nn_at 332 (by decide +kernel) (by decide +kernel)
theorem mw_333 : (.code y_Co_operand b_Co_operand 2 (some .int) : Cond) ∈ nn_gw := nn_at 333 (by decide +kernel) (by decide +kernel)
theorem mw_834 : (.methodLink R_Ma 53 y_Co_operation : Cond) ∈ nn_gw := nn_at 834 (by decide +kernel) (by decide +kernel)
theorem mw_835 : (.methodLink R_Ma 58 y_Co_links : Cond) ∈ nn_gw := nn_at 835 (by decide +kernel) (by decide +kernel)
theorem mw_836 : (.methodLink R_Ma 61 y_Co_operand : Cond) ∈ nn_gw := nn_at 836 (by decide +kernel) (by decide +kernel)
theorem mw_837 : (.methodLink R_Ma 64 y_Ma_refusal : Cond) ∈ nn_gw := nn_at 837 (by decide +kernel) (by decide +kernel)
theorem mw_839 : (.instanceMethod y_Ma_refusal : Cond) ∈ nn_gw := nn_at 839 (by decide +kernel) (by decide +kernel)
theorem mw_840 : (.code y_Ma_refusal b_Ma_refusal 3 (some .int) : Cond) ∈ nn_gw := nn_at 840 (by decide +kernel) (by decide +kernel)
theorem mw_845 : (.methodLink R_Ma 68 y_Ma_perform : Cond) ∈ nn_gw := nn_at 845 (by decide +kernel) (by decide +kernel)
theorem mw_847 : (.instanceMethod y_Ma_perform : Cond) ∈ nn_gw := nn_at 847 (by decide +kernel) (by decide +kernel)
theorem mw_848 : (.code y_Ma_perform b_Ma_perform 4 none : Cond) ∈ nn_gw := nn_at 848 (by decide +kernel) (by decide +kernel)
theorem d_Ma_step_0 : decode b_Ma_step 0 = .ok (.aload_n 1, 1) := by decide +kernel
theorem d_Ma_step_1 : decode b_Ma_step 1 = .ok (.aload_n 0, 1) := by decide +kernel
theorem d_Ma_step_2 : decode b_Ma_step 2 = .ok (.getfield 22, 3) := by decide +kernel
theorem d_Ma_step_5 : decode b_Ma_step 5 = .ok (.invokevirtual 53, 3) := by decide +kernel
theorem d_Ma_step_8 : decode b_Ma_step 8 = .ok (.istore_n 2, 1) := by decide +kernel
theorem d_Ma_step_9 : decode b_Ma_step 9 = .ok (.aload_n 1, 1) := by decide +kernel
theorem d_Ma_step_10 : decode b_Ma_step 10 = .ok (.aload_n 0, 1) := by decide +kernel
theorem d_Ma_step_11 : decode b_Ma_step 11 = .ok (.getfield 22, 3) := by decide +kernel
theorem d_Ma_step_14 : decode b_Ma_step 14 = .ok (.invokevirtual 58, 3) := by decide +kernel
theorem d_Ma_step_17 : decode b_Ma_step 17 = .ok (.istore_n 3, 1) := by decide +kernel
theorem d_Ma_step_18 : decode b_Ma_step 18 = .ok (.aload_n 1, 1) := by decide +kernel
theorem d_Ma_step_19 : decode b_Ma_step 19 = .ok (.aload_n 0, 1) := by decide +kernel
theorem d_Ma_step_20 : decode b_Ma_step 20 = .ok (.getfield 22, 3) := by decide +kernel
theorem d_Ma_step_23 : decode b_Ma_step 23 = .ok (.invokevirtual 61, 3) := by decide +kernel
theorem d_Ma_step_26 : decode b_Ma_step 26 = .ok (.istore 4, 2) := by decide +kernel
theorem d_Ma_step_28 : decode b_Ma_step 28 = .ok (.aload_n 0, 1) := by decide +kernel
theorem d_Ma_step_29 : decode b_Ma_step 29 = .ok (.iload_n 2, 1) := by decide +kernel
theorem d_Ma_step_30 : decode b_Ma_step 30 = .ok (.iload 4, 2) := by decide +kernel
theorem d_Ma_step_32 : decode b_Ma_step 32 = .ok (.invokevirtual 64, 3) := by decide +kernel
theorem d_Ma_step_35 : decode b_Ma_step 35 = .ok (.istore 5, 2) := by decide +kernel
theorem d_Ma_step_37 : decode b_Ma_step 37 = .ok (.iload 5, 2) := by decide +kernel
theorem d_Ma_step_39 : decode b_Ma_step 39 = .ok (.iconst 1, 1) := by decide +kernel
theorem d_Ma_step_40 : decode b_Ma_step 40 = .ok (.if_icmp .eq 10, 3) := by decide +kernel
theorem d_Ma_step_43 : decode b_Ma_step 43 = .ok (.aload_n 0, 1) := by decide +kernel
theorem d_Ma_step_44 : decode b_Ma_step 44 = .ok (.iload 5, 2) := by decide +kernel
theorem d_Ma_step_46 : decode b_Ma_step 46 = .ok (.putfield 18, 3) := by decide +kernel
theorem d_Ma_step_49 : decode b_Ma_step 49 = .ok (.return_, 1) := by decide +kernel
theorem d_Ma_step_50 : decode b_Ma_step 50 = .ok (.aload_n 0, 1) := by decide +kernel
theorem d_Ma_step_51 : decode b_Ma_step 51 = .ok (.dup, 1) := by decide +kernel
theorem d_Ma_step_52 : decode b_Ma_step 52 = .ok (.getfield 22, 3) := by decide +kernel
theorem d_Ma_step_55 : decode b_Ma_step 55 = .ok (.iconst 1, 1) := by decide +kernel
theorem d_Ma_step_56 : decode b_Ma_step 56 = .ok (.iadd, 1) := by decide +kernel
theorem d_Ma_step_57 : decode b_Ma_step 57 = .ok (.putfield 22, 3) := by decide +kernel
theorem d_Ma_step_60 : decode b_Ma_step 60 = .ok (.aload_n 0, 1) := by decide +kernel
theorem d_Ma_step_61 : decode b_Ma_step 61 = .ok (.iload_n 2, 1) := by decide +kernel
theorem d_Ma_step_62 : decode b_Ma_step 62 = .ok (.iload_n 3, 1) := by decide +kernel
theorem d_Ma_step_63 : decode b_Ma_step 63 = .ok (.iload 4, 2) := by decide +kernel
theorem d_Ma_step_65 : decode b_Ma_step 65 = .ok (.invokevirtual 68, 3) := by decide +kernel
theorem d_Ma_step_68 : decode b_Ma_step 68 = .ok (.return_, 1) := by decide +kernel

set_option maxHeartbeats 4000000 in
set_option maxRecDepth 100000 in
theorem g_Ma_step (l : Launch) (G : nn_G) (sz : Nat) (h0 x1 x2 : Nat) (f g : Nat → Int32) (v1 v2 v3 v4 v5 : Int32) (oc : Nat) (h1 y1 y2 y3 : Nat) (f1 f2 f3 : Nat → Int32) (n : Nat) (hoc : oc < 1000000) (hn : n ≤ 180) : Met l y_Ma_step w_Ma_step ({ frames := 4, cells := 0, slots := 0, locals := 90 }) (nn_P G [.ref h0, .ref h1] [(h0, .inr (3, [.ref x1, .ref x2, .int v1, .int v2, .int v3, .int v4, .int v5, .int (nI oc)])), (x1, .inl (G.2 0, 200, .inl (f))), (x2, .inl (G.2 0, 8, .inl (g))), (h1, .inr (1, [.ref y1, .ref y2, .ref y3, .int (nI n)])), (y1, .inl (G.2 0, 180, .inl (f1))), (y2, .inl (G.2 0, 180, .inl (f2))), (y3, .inl (G.2 0, 180, .inl (f3)))] sz) (va_Qv (fun u : (Nat → Int32) × (Nat → Int32) × Int32 × Int32 × Int32 × Int32 × Int32 × Nat => u.2.2.2.2.2.2.2 ≤ oc + 1) (fun u t => va_P G.1 nn_cls [(h0, .inr (3, [.ref x1, .ref x2, .int u.2.2.1, .int u.2.2.2.1, .int u.2.2.2.2.1, .int u.2.2.2.2.2.1, .int u.2.2.2.2.2.2.1, .int (nI u.2.2.2.2.2.2.2)])), (x1, .inl (G.2 0, 200, .inl (u.1))), (x2, .inl (G.2 0, 8, .inl (u.2.1))), (h1, .inr (1, [.ref y1, .ref y2, .ref y3, .int (nI n)])), (y1, .inl (G.2 0, 180, .inl (f1))), (y2, .inl (G.2 0, 180, .inl (f2))), (y3, .inl (G.2 0, 180, .inl (f3)))] t.heap ∧ va_D (va_A [(h0, .inr (3, [.ref x1, .ref x2, .int v1, .int v2, .int v3, .int v4, .int v5, .int (nI oc)])), (x1, .inl (G.2 0, 200, .inl (f))), (x2, .inl (G.2 0, 8, .inl (g))), (h1, .inr (1, [.ref y1, .ref y2, .ref y3, .int (nI n)])), (y1, .inl (G.2 0, 180, .inl (f1))), (y2, .inl (G.2 0, 180, .inl (f2))), (y3, .inl (G.2 0, 180, .inl (f3)))] sz) [(h0, .inr (3, [.ref x1, .ref x2, .int u.2.2.1, .int u.2.2.2.1, .int u.2.2.2.2.1, .int u.2.2.2.2.2.1, .int u.2.2.2.2.2.2.1, .int (nI u.2.2.2.2.2.2.2)])), (x1, .inl (G.2 0, 200, .inl (u.1))), (x2, .inl (G.2 0, 8, .inl (u.2.1))), (h1, .inr (1, [.ref y1, .ref y2, .ref y3, .int (nI n)])), (y1, .inl (G.2 0, 180, .inl (f1))), (y2, .inl (G.2 0, 180, .inl (f2))), (y3, .inl (G.2 0, 180, .inl (f3)))]) (va_A [(h0, .inr (3, [.ref x1, .ref x2, .int v1, .int v2, .int v3, .int v4, .int v5, .int (nI oc)])), (x1, .inl (G.2 0, 200, .inl (f))), (x2, .inl (G.2 0, 8, .inl (g))), (h1, .inr (1, [.ref y1, .ref y2, .ref y3, .int (nI n)])), (y1, .inl (G.2 0, 180, .inl (f1))), (y2, .inl (G.2 0, 180, .inl (f2))), (y3, .inl (G.2 0, 180, .inl (f3)))] sz)) 0 0 (va_A [(h0, .inr (3, [.ref x1, .ref x2, .int v1, .int v2, .int v3, .int v4, .int v5, .int (nI oc)])), (x1, .inl (G.2 0, 200, .inl (f))), (x2, .inl (G.2 0, 8, .inl (g))), (h1, .inr (1, [.ref y1, .ref y2, .ref y3, .int (nI n)])), (y1, .inl (G.2 0, 180, .inl (f1))), (y2, .inl (G.2 0, 180, .inl (f2))), (y3, .inl (G.2 0, 180, .inl (f3)))] sz) := by
  refine Met.ofW (cc := b_Ma_step) (maxL := 6) (ret := none) (by decide) rfl ?_
  intro p e s m args below meth c s₁ B hml hv
  obtain ⟨rfl, hsz, hP, hK, hD0, hN⟩ := hv
  have hx := B.exec
  have hb := B.bytes
  have hr := B.returns
  have hts := atoms_spec (ws := w_Ma_step) B.pre
  have hg : ∀ w ∈ nn_gw, w.before _ s = true := fun w h => hts w (List.mem_cons_of_mem _ h)
  have hown : s.vm.findClass R_Ma = some m.cls := findClass_of_methodNamed B.named
  have hlocks := B.notSynchronized
  subst hsz
  have hD := hD0.self (sz := s.heap.size)
  generalize hAe : va_A [(h0, .inr (3, [.ref x1, .ref x2, .int v1, .int v2, .int v3, .int v4, .int v5, .int (nI oc)])), (x1, .inl (G.2 0, 200, .inl (f))), (x2, .inl (G.2 0, 8, .inl (g))), (h1, .inr (1, [.ref y1, .ref y2, .ref y3, .int (nI n)])), (y1, .inl (G.2 0, 180, .inl (f1))), (y2, .inl (G.2 0, 180, .inl (f2))), (y3, .inl (G.2 0, 180, .inl (f3)))] s.heap.size = A at hD ⊢
  have hA : ∀ q : Nat, s.heap.size ≤ q → A q := fun q h => by rw [← hAe]; exact Or.inr h
  have hS : va_S A s.heap s.heap [] := va_S.rf
  have hP : va_P G.1 nn_cls [(h0, .inr (3, [.ref x1, .ref x2, .int v1, .int v2, .int v3, .int v4, .int v5, .int (nI oc)])), (x1, .inl (G.2 0, 200, .inl (f))), (x2, .inl (G.2 0, 8, .inl (g))), (h1, .inr (1, [.ref y1, .ref y2, .ref y3, .int (nI n)])), (y1, .inl (G.2 0, 180, .inl (f1))), (y2, .inl (G.2 0, 180, .inl (f2))), (y3, .inl (G.2 0, 180, .inl (f3)))] s.heap := hP
  have hl := lv_entry ([.ref h0, .ref h1]) (n := 6) (Nat.le_of_ble_eq_true rfl)
  rw [lg_entry_eq]
  generalize (lg_sl ([.ref h0, .ref h1]) ++ List.replicate (6 - (lg_sl ([.ref h0, .ref h1])).length) Slot.unset).toArray = ls at hl ⊢
  have hl : lv_has ls 6 [(0, .ref h0), (1, .ref h1)] := hl
  refine lv_aload_n hx hb d_Ma_step_0 rfl (lv_at hl 1 rfl) ?_
  refine lv_aload_n hx hb d_Ma_step_1 rfl (lv_at hl 0 rfl) ?_
  refine va_get (D := G.1) (ci := 3) (v := .int v2) (C := R_Ma) (T := T_Ma) (N := 8) hx hb hg in_Ma hown hK hP 0 rfl rfl 3 (by decide) (hg _ mw_249) (fun _ h9 => h9) rfl d_Ma_step_2 ?_
  have hPc := hP.sub (ws' := [(h1, .inr (1, [.ref y1, .ref y2, .ref y3, .int (nI n)])), (y1, .inl (G.2 0, 180, .inl (f1))), (y2, .inl (G.2 0, 180, .inl (f2))), (y3, .inl (G.2 0, 180, .inl (f3)))]) [3, 4, 5, 6] rfl
  have hDc := hD.sub (ws' := [(h1, .inr (1, [.ref y1, .ref y2, .ref y3, .int (nI n)])), (y1, .inl (G.2 0, 180, .inl (f1))), (y2, .inl (G.2 0, 180, .inl (f2))), (y3, .inl (G.2 0, 180, .inl (f3)))]) [3, 4, 5, 6] (by decide) rfl
  refine vp_callSi (va_Run.run (va_runV (As := [.int v2]) (rest := []) ⟨hx, hb, hml, hown, hts⟩ (g_Co_operation l G _ h1 y1 y2 y3 f1 f2 f3 n v2 hn) (cwV 1 hts (nn_gV mw_321 mw_834 mw_319 mw_320 mw_92) rfl rfl rfl (by decide +kernel) ⟨Nat.le_of_ble_eq_true rfl, Nat.le_of_ble_eq_true rfl⟩) (nn_preV (va_recv hK hP rfl (q0 := 3) rfl) hPc hDc hK hN) rfl rfl hl.1 rfl (lv_room (Nat.le_of_ble_eq_true rfl)) d_Ma_step_5 ⟨(Nat.le_of_ble_eq_true rfl), (Nat.le_of_ble_eq_true rfl)⟩)) (fun r1 er1 => ?_)
  refine lv_istore_n (lv' := [(2, .int r1), (0, .ref h0), (1, .ref h1)]) hx hb d_Ma_step_8 rfl hl (by decide) rfl (fun ls hl => ?_)
  refine lv_aload_n hx hb d_Ma_step_9 rfl (lv_at hl 2 rfl) ?_
  refine lv_aload_n hx hb d_Ma_step_10 rfl (lv_at hl 1 rfl) ?_
  refine va_get (D := G.1) (ci := 3) (v := .int v2) (C := R_Ma) (T := T_Ma) (N := 8) hx hb hg in_Ma hown hK hP 0 rfl rfl 3 (by decide) (hg _ mw_249) (fun _ h9 => h9) rfl d_Ma_step_11 ?_
  have hPc := hP.sub (ws' := [(h1, .inr (1, [.ref y1, .ref y2, .ref y3, .int (nI n)])), (y1, .inl (G.2 0, 180, .inl (f1))), (y2, .inl (G.2 0, 180, .inl (f2))), (y3, .inl (G.2 0, 180, .inl (f3)))]) [3, 4, 5, 6] rfl
  have hDc := hD.sub (ws' := [(h1, .inr (1, [.ref y1, .ref y2, .ref y3, .int (nI n)])), (y1, .inl (G.2 0, 180, .inl (f1))), (y2, .inl (G.2 0, 180, .inl (f2))), (y3, .inl (G.2 0, 180, .inl (f3)))]) [3, 4, 5, 6] (by decide) rfl
  refine vp_callSi (va_Run.run (va_runV (As := [.int v2]) (rest := []) ⟨hx, hb, hml, hown, hts⟩ (g_Co_links l G _ h1 y1 y2 y3 f1 f2 f3 n v2 hn) (cwV 1 hts (nn_gV mw_329 mw_835 mw_327 mw_328 mw_92) rfl rfl rfl (by decide +kernel) ⟨Nat.le_of_ble_eq_true rfl, Nat.le_of_ble_eq_true rfl⟩) (nn_preV (va_recv hK hP rfl (q0 := 3) rfl) hPc hDc hK hN) rfl rfl hl.1 rfl (lv_room (Nat.le_of_ble_eq_true rfl)) d_Ma_step_14 ⟨(Nat.le_of_ble_eq_true rfl), (Nat.le_of_ble_eq_true rfl)⟩)) (fun r2 er2 => ?_)
  refine lv_istore_n (lv' := [(3, .int r2), (2, .int r1), (0, .ref h0), (1, .ref h1)]) hx hb d_Ma_step_17 rfl hl (by decide) rfl (fun ls hl => ?_)
  refine lv_aload_n hx hb d_Ma_step_18 rfl (lv_at hl 3 rfl) ?_
  refine lv_aload_n hx hb d_Ma_step_19 rfl (lv_at hl 2 rfl) ?_
  refine va_get (D := G.1) (ci := 3) (v := .int v2) (C := R_Ma) (T := T_Ma) (N := 8) hx hb hg in_Ma hown hK hP 0 rfl rfl 3 (by decide) (hg _ mw_249) (fun _ h9 => h9) rfl d_Ma_step_20 ?_
  have hPc := hP.sub (ws' := [(h1, .inr (1, [.ref y1, .ref y2, .ref y3, .int (nI n)])), (y1, .inl (G.2 0, 180, .inl (f1))), (y2, .inl (G.2 0, 180, .inl (f2))), (y3, .inl (G.2 0, 180, .inl (f3)))]) [3, 4, 5, 6] rfl
  have hDc := hD.sub (ws' := [(h1, .inr (1, [.ref y1, .ref y2, .ref y3, .int (nI n)])), (y1, .inl (G.2 0, 180, .inl (f1))), (y2, .inl (G.2 0, 180, .inl (f2))), (y3, .inl (G.2 0, 180, .inl (f3)))]) [3, 4, 5, 6] (by decide) rfl
  refine vp_callSi (va_Run.run (va_runV (As := [.int v2]) (rest := []) ⟨hx, hb, hml, hown, hts⟩ (g_Co_operand l G _ h1 y1 y2 y3 f1 f2 f3 n v2 hn) (cwV 1 hts (nn_gV mw_333 mw_836 mw_331 mw_332 mw_92) rfl rfl rfl (by decide +kernel) ⟨Nat.le_of_ble_eq_true rfl, Nat.le_of_ble_eq_true rfl⟩) (nn_preV (va_recv hK hP rfl (q0 := 3) rfl) hPc hDc hK hN) rfl rfl hl.1 rfl (lv_room (Nat.le_of_ble_eq_true rfl)) d_Ma_step_23 ⟨(Nat.le_of_ble_eq_true rfl), (Nat.le_of_ble_eq_true rfl)⟩)) (fun r3 er3 => ?_)
  refine lv_istore (lv' := [(4, .int r3), (3, .int r2), (2, .int r1), (0, .ref h0), (1, .ref h1)]) hx hb d_Ma_step_26 hl (by decide) rfl (fun ls hl => ?_)
  refine lv_aload_n hx hb d_Ma_step_28 rfl (lv_at hl 3 rfl) ?_
  refine lv_iload_n hx hb d_Ma_step_29 rfl (lv_at hl 2 rfl) ?_
  refine lv_iload hx hb d_Ma_step_30 (lv_at hl 0 rfl) ?_
  have hPc := hP.sub (ws' := [(h0, .inr (3, [.ref x1, .ref x2, .int v1, .int v2, .int v3, .int v4, .int v5, .int (nI oc)])), (x1, .inl (G.2 0, 200, .inl (f))), (x2, .inl (G.2 0, 8, .inl (g)))]) [0, 1, 2] rfl
  have hDc := hD.sub (ws' := [(h0, .inr (3, [.ref x1, .ref x2, .int v1, .int v2, .int v3, .int v4, .int v5, .int (nI oc)])), (x1, .inl (G.2 0, 200, .inl (f))), (x2, .inl (G.2 0, 8, .inl (g)))]) [0, 1, 2] (by decide) rfl
  refine vp_callSi (va_Run.run (va_runV (As := [.int r1, .int r3]) (rest := []) ⟨hx, hb, hml, hown, hts⟩ (g_Ma_refusal l G _ h0 x1 x2 f g v1 v2 v3 v4 v5 oc r1 r3) (cwV 2 hts (nn_gV mw_840 mw_837 mw_839 mw_35 mw_93) rfl rfl rfl (by decide +kernel) ⟨Nat.le_of_ble_eq_true rfl, Nat.le_of_ble_eq_true rfl⟩) (nn_preV (va_recv hK hP rfl (q0 := 0) rfl) hPc hDc hK hN) rfl rfl hl.1 rfl (lv_room (Nat.le_of_ble_eq_true rfl)) d_Ma_step_32 ⟨(Nat.le_of_ble_eq_true rfl), (Nat.le_of_ble_eq_true rfl)⟩)) (fun r4 er4 => ?_)
  refine lv_istore (lv' := [(5, .int r4), (4, .int r3), (3, .int r2), (2, .int r1), (0, .ref h0), (1, .ref h1)]) hx hb d_Ma_step_35 hl (by decide) rfl (fun ls hl => ?_)
  refine lv_iload hx hb d_Ma_step_37 (lv_at hl 0 rfl) ?_
  refine lv_iconst (v := 1) hx hb d_Ma_step_39 (by decide) ?_
  refine lv_icmp_eq (tgt := 50) hx hb d_Ma_step_40 rfl (fun hc40 => ?_) (fun hc40 => ?_)
  · skip
    refine lv_aload_n hx hb d_Ma_step_50 rfl (lv_at hl 4 rfl) ?_
    refine lv_dup hx hb d_Ma_step_51 rfl ?_
    refine va_get (D := G.1) (ci := 3) (v := .int v2) (C := R_Ma) (T := T_Ma) (N := 8) hx hb hg in_Ma hown hK hP 0 rfl rfl 3 (by decide) (hg _ mw_249) (fun _ h9 => h9) rfl d_Ma_step_52 ?_
    refine lv_iconst (v := 1) hx hb d_Ma_step_55 (by decide) ?_
    refine lv_iadd hx hb d_Ma_step_56 ?_
    refine va_put (D := G.1) (ci := 3) (v := .int (v2 + 1)) (ty := .int) (C := R_Ma) (T := T_Ma) (N := 8) hx hb hg in_Ma t_Ma ok_Ma nm_Ma hown hK hP hD hS 0 rfl rfl 3 (by decide) (hg _ mw_249) (fun _ h9 => h9) rfl (by decide +kernel) rfl rfl (Nat.le_of_ble_eq_true rfl) d_Ma_step_57 (fun H locs hP hD hS => ?_)
    have hP : va_P G.1 nn_cls [(h0, .inr (3, [.ref x1, .ref x2, .int v1, .int (v2 + 1), .int v3, .int v4, .int v5, .int (nI oc)])), (x1, .inl (G.2 0, 200, .inl (f))), (x2, .inl (G.2 0, 8, .inl (g))), (h1, .inr (1, [.ref y1, .ref y2, .ref y3, .int (nI n)])), (y1, .inl (G.2 0, 180, .inl (f1))), (y2, .inl (G.2 0, 180, .inl (f2))), (y3, .inl (G.2 0, 180, .inl (f3)))] H := hP
    have hD : va_D A [(h0, .inr (3, [.ref x1, .ref x2, .int v1, .int (v2 + 1), .int v3, .int v4, .int v5, .int (nI oc)])), (x1, .inl (G.2 0, 200, .inl (f))), (x2, .inl (G.2 0, 8, .inl (g))), (h1, .inr (1, [.ref y1, .ref y2, .ref y3, .int (nI n)])), (y1, .inl (G.2 0, 180, .inl (f1))), (y2, .inl (G.2 0, 180, .inl (f2))), (y3, .inl (G.2 0, 180, .inl (f3)))] := hD
    refine lv_aload_n hx hb d_Ma_step_60 rfl (lv_at hl 4 rfl) ?_
    refine lv_iload_n hx hb d_Ma_step_61 rfl (lv_at hl 3 rfl) ?_
    refine lv_iload_n hx hb d_Ma_step_62 rfl (lv_at hl 2 rfl) ?_
    refine lv_iload hx hb d_Ma_step_63 (lv_at hl 1 rfl) ?_
    have hPc := hP.sub (ws' := [(h0, .inr (3, [.ref x1, .ref x2, .int v1, .int (v2 + 1), .int v3, .int v4, .int v5, .int (nI oc)])), (x1, .inl (G.2 0, 200, .inl (f))), (x2, .inl (G.2 0, 8, .inl (g)))]) [0, 1, 2] rfl
    have hDc := hD.sub (ws' := [(h0, .inr (3, [.ref x1, .ref x2, .int v1, .int (v2 + 1), .int v3, .int v4, .int v5, .int (nI oc)])), (x1, .inl (G.2 0, 200, .inl (f))), (x2, .inl (G.2 0, 8, .inl (g)))]) [0, 1, 2] (by decide) rfl
    have hFc := va_free (wc := [(h0, .inr (3, [.ref x1, .ref x2, .int v1, .int (v2 + 1), .int v3, .int v4, .int v5, .int (nI oc)])), (x1, .inl (G.2 0, 200, .inl (f))), (x2, .inl (G.2 0, 8, .inl (g)))]) hD hS hA [0, 1, 2] rfl
    refine va_callv (va_runV (As := [.int r1, .int r2, .int r3]) (rest := []) ⟨hx, hb, hml, hown, hts⟩ (g_Ma_perform l G _ h0 x1 x2 f g v1 (v2 + 1) v3 v4 v5 oc r1 r2 r3 hoc) (cwV 3 hts (nn_gV mw_848 mw_845 mw_847 mw_37 mw_93) rfl rfl rfl (by decide +kernel) ⟨Nat.le_of_ble_eq_true rfl, Nat.le_of_ble_eq_true rfl⟩) (nn_preV (va_recv hK hP rfl (q0 := 0) rfl) hPc hDc hK hN) rfl rfl hl.1 rfl (lv_room (Nat.le_of_ble_eq_true rfl)) d_Ma_step_65 ⟨(Nat.le_of_ble_eq_true rfl), (Nat.le_of_ble_eq_true rfl)⟩) hS (fun q _ h => hFc q h) hFc (fun u5 t H locs ht hvm hw hB hz1 hk1 hS => ?_)
    obtain ⟨w6, w7, w8, w9, w10, w11, w12, w13⟩ := u5
    dsimp only at hB hw
    have hww13 := hw
    obtain ⟨hP1, hD1⟩ := hB
    rw [ht] at hP1
    obtain ⟨hP, hD⟩ := va_join (wr := [(h1, .inr (1, [.ref y1, .ref y2, .ref y3, .int (nI n)])), (y1, .inl (G.2 0, 180, .inl (f1))), (y2, .inl (G.2 0, 180, .inl (f2))), (y3, .inl (G.2 0, 180, .inl (f3)))]) (w1 := [(h0, .inr (3, [.ref x1, .ref x2, .int w8, .int w9, .int w10, .int w11, .int w12, .int (nI w13)])), (x1, .inl (G.2 0, 200, .inl (w6))), (x2, .inl (G.2 0, 8, .inl (w7)))]) hP hD [0, 1, 2] [3, 4, 5, 6] rfl rfl (by decide) (by decide) hk1 hFc hP1 hD1
    have hP : va_P G.1 nn_cls [(h1, .inr (1, [.ref y1, .ref y2, .ref y3, .int (nI n)])), (y1, .inl (G.2 0, 180, .inl (f1))), (y2, .inl (G.2 0, 180, .inl (f2))), (y3, .inl (G.2 0, 180, .inl (f3))), (h0, .inr (3, [.ref x1, .ref x2, .int w8, .int w9, .int w10, .int w11, .int w12, .int (nI w13)])), (x1, .inl (G.2 0, 200, .inl (w6))), (x2, .inl (G.2 0, 8, .inl (w7)))] H := hP
    have hD : va_D A [(h1, .inr (1, [.ref y1, .ref y2, .ref y3, .int (nI n)])), (y1, .inl (G.2 0, 180, .inl (f1))), (y2, .inl (G.2 0, 180, .inl (f2))), (y3, .inl (G.2 0, 180, .inl (f3))), (h0, .inr (3, [.ref x1, .ref x2, .int w8, .int w9, .int w10, .int w11, .int w12, .int (nI w13)])), (x1, .inl (G.2 0, 200, .inl (w6))), (x2, .inl (G.2 0, 8, .inl (w7)))] := hD
    refine W.widen (k := 0) (n := 0) (Nat.le_of_ble_eq_true rfl) (Nat.le_of_ble_eq_true rfl) ?_
    refine W.widen (k := 0) (n := 0) (Nat.le_of_ble_eq_true rfl) (Nat.le_of_ble_eq_true rfl) ?_
    have hP9 := hP.sub (ws' := [(h0, .inr (3, [.ref x1, .ref x2, .int w8, .int w9, .int w10, .int w11, .int w12, .int (nI w13)])), (x1, .inl (G.2 0, 200, .inl (w6))), (x2, .inl (G.2 0, 8, .inl (w7)))]) [4, 5, 6] rfl
    have hD9 := hD.sub (ws' := [(h0, .inr (3, [.ref x1, .ref x2, .int w8, .int w9, .int w10, .int w11, .int w12, .int (nI w13)])), (x1, .inl (G.2 0, 200, .inl (w6))), (x2, .inl (G.2 0, 8, .inl (w7)))]) [4, 5, 6] (by decide) rfl
    have hP9 := hP.sub (ws' := [(h0, .inr (3, [.ref x1, .ref x2, .int w8, .int w9, .int w10, .int w11, .int w12, .int (nI w13)])), (x1, .inl (G.2 0, 200, .inl (w6))), (x2, .inl (G.2 0, 8, .inl (w7))), (h1, .inr (1, [.ref y1, .ref y2, .ref y3, .int (nI n)])), (y1, .inl (G.2 0, 180, .inl (f1))), (y2, .inl (G.2 0, 180, .inl (f2))), (y3, .inl (G.2 0, 180, .inl (f3)))]) [4, 5, 6, 0, 1, 2, 3] rfl
    have hD9 := hD.sub (ws' := [(h0, .inr (3, [.ref x1, .ref x2, .int w8, .int w9, .int w10, .int w11, .int w12, .int (nI w13)])), (x1, .inl (G.2 0, 200, .inl (w6))), (x2, .inl (G.2 0, 8, .inl (w7))), (h1, .inr (1, [.ref y1, .ref y2, .ref y3, .int (nI n)])), (y1, .inl (G.2 0, 180, .inl (f1))), (y2, .inl (G.2 0, 180, .inl (f2))), (y3, .inl (G.2 0, 180, .inl (f3)))]) [4, 5, 6, 0, 1, 2, 3] (by decide) rfl
    exact W.vret hx hb hr (fun t ht hW => ⟨⟨(w6, w7, w8, w9, w10, w11, w12, w13), rfl, (show w13 ≤ oc + 1 by omega), ⟨by rw [ht]; exact hP9, hD9⟩⟩, hS.F ht⟩) hS.2.2 d_Ma_step_68
  · skip
    refine lv_aload_n hx hb d_Ma_step_43 rfl (lv_at hl 4 rfl) ?_
    refine lv_iload hx hb d_Ma_step_44 (lv_at hl 0 rfl) ?_
    refine va_put (D := G.1) (ci := 3) (v := .int r4) (ty := .int) (C := R_Ma) (T := T_Ma) (N := 8) hx hb hg in_Ma t_Ma ok_Ma nm_Ma hown hK hP hD hS 0 rfl rfl 2 (by decide) (hg _ mw_248) (fun _ h9 => h9) rfl (by decide +kernel) rfl rfl (Nat.le_of_ble_eq_true rfl) d_Ma_step_46 (fun H locs hP hD hS => ?_)
    have hP : va_P G.1 nn_cls [(h0, .inr (3, [.ref x1, .ref x2, .int r4, .int v2, .int v3, .int v4, .int v5, .int (nI oc)])), (x1, .inl (G.2 0, 200, .inl (f))), (x2, .inl (G.2 0, 8, .inl (g))), (h1, .inr (1, [.ref y1, .ref y2, .ref y3, .int (nI n)])), (y1, .inl (G.2 0, 180, .inl (f1))), (y2, .inl (G.2 0, 180, .inl (f2))), (y3, .inl (G.2 0, 180, .inl (f3)))] H := hP
    have hD : va_D A [(h0, .inr (3, [.ref x1, .ref x2, .int r4, .int v2, .int v3, .int v4, .int v5, .int (nI oc)])), (x1, .inl (G.2 0, 200, .inl (f))), (x2, .inl (G.2 0, 8, .inl (g))), (h1, .inr (1, [.ref y1, .ref y2, .ref y3, .int (nI n)])), (y1, .inl (G.2 0, 180, .inl (f1))), (y2, .inl (G.2 0, 180, .inl (f2))), (y3, .inl (G.2 0, 180, .inl (f3)))] := hD
    refine W.widen (k := 0) (n := 0) (Nat.le_of_ble_eq_true rfl) (Nat.le_of_ble_eq_true rfl) ?_
    have hP9 := hP.sub (ws' := [(h0, .inr (3, [.ref x1, .ref x2, .int r4, .int v2, .int v3, .int v4, .int v5, .int (nI oc)])), (x1, .inl (G.2 0, 200, .inl (f))), (x2, .inl (G.2 0, 8, .inl (g)))]) [0, 1, 2] rfl
    have hD9 := hD.sub (ws' := [(h0, .inr (3, [.ref x1, .ref x2, .int r4, .int v2, .int v3, .int v4, .int v5, .int (nI oc)])), (x1, .inl (G.2 0, 200, .inl (f))), (x2, .inl (G.2 0, 8, .inl (g)))]) [0, 1, 2] (by decide) rfl
    have hP9 := hP.sub (ws' := [(h0, .inr (3, [.ref x1, .ref x2, .int r4, .int v2, .int v3, .int v4, .int v5, .int (nI oc)])), (x1, .inl (G.2 0, 200, .inl (f))), (x2, .inl (G.2 0, 8, .inl (g))), (h1, .inr (1, [.ref y1, .ref y2, .ref y3, .int (nI n)])), (y1, .inl (G.2 0, 180, .inl (f1))), (y2, .inl (G.2 0, 180, .inl (f2))), (y3, .inl (G.2 0, 180, .inl (f3)))]) [0, 1, 2, 3, 4, 5, 6] rfl
    have hD9 := hD.sub (ws' := [(h0, .inr (3, [.ref x1, .ref x2, .int r4, .int v2, .int v3, .int v4, .int v5, .int (nI oc)])), (x1, .inl (G.2 0, 200, .inl (f))), (x2, .inl (G.2 0, 8, .inl (g))), (h1, .inr (1, [.ref y1, .ref y2, .ref y3, .int (nI n)])), (y1, .inl (G.2 0, 180, .inl (f1))), (y2, .inl (G.2 0, 180, .inl (f2))), (y3, .inl (G.2 0, 180, .inl (f3)))]) [0, 1, 2, 3, 4, 5, 6] (by decide) rfl
    exact W.vret hx hb hr (fun t ht hW => ⟨⟨(f, g, r4, v2, v3, v4, v5, oc), rfl, (show oc ≤ oc + 1 by omega), ⟨by rw [ht]; exact hP9, hD9⟩⟩, hS.F ht⟩) hS.2.2 d_Ma_step_49

theorem mw_342 : (.methodLink R_Ma 43 y_Ma_clear : Cond) ∈ nn_gw := nn_at 342 (by decide +kernel) (by decide +kernel)
theorem mw_343 : (.instanceMethod y_Ma_clear : Cond) ∈ nn_gw := nn_at 343 (by decide +kernel) (by decide +kernel)
theorem mw_344 : (.selects R_Ma y_Ma_clear y_Ma_clear : Cond) ∈ nn_gw := nn_at 344 (by decide +kernel) (by decide +kernel)
theorem mw_345 : (.code y_Ma_clear b_Ma_clear 1 none : Cond) ∈ nn_gw := nn_at 345 (by decide +kernel) (by decide +kernel)
theorem d_Ma_begin_0 : decode b_Ma_begin 0 = .ok (.aload_n 0, 1) := by decide +kernel
theorem d_Ma_begin_1 : decode b_Ma_begin 1 = .ok (.invokevirtual 43, 3) := by decide +kernel
theorem d_Ma_begin_4 : decode b_Ma_begin 4 = .ok (.aload_n 0, 1) := by decide +kernel
theorem d_Ma_begin_5 : decode b_Ma_begin 5 = .ok (.iconst 1, 1) := by decide +kernel
theorem d_Ma_begin_6 : decode b_Ma_begin 6 = .ok (.putfield 18, 3) := by decide +kernel
theorem d_Ma_begin_9 : decode b_Ma_begin 9 = .ok (.aload_n 0, 1) := by decide +kernel
theorem d_Ma_begin_10 : decode b_Ma_begin 10 = .ok (.iconst 1, 1) := by decide +kernel
theorem d_Ma_begin_11 : decode b_Ma_begin 11 = .ok (.putfield 31, 3) := by decide +kernel
theorem d_Ma_begin_14 : decode b_Ma_begin 14 = .ok (.return_, 1) := by decide +kernel

set_option maxHeartbeats 4000000 in
set_option maxRecDepth 100000 in
theorem g_Ma_begin (l : Launch) (G : nn_G) (sz : Nat) (h0 x1 x2 : Nat) (f g : Nat → Int32) (v1 v2 v3 v4 v5 : Int32) (oc : Nat) : Met l y_Ma_begin w_Ma_begin ({ frames := 2, cells := 0, slots := 0, locals := 43 }) (nn_P G [.ref h0] [(h0, .inr (3, [.ref x1, .ref x2, .int v1, .int v2, .int v3, .int v4, .int v5, .int (nI oc)])), (x1, .inl (G.2 0, 200, .inl (f))), (x2, .inl (G.2 0, 8, .inl (g)))] sz) (va_Qv (fun u : (Nat → Int32) × (Nat → Int32) × Int32 × Int32 × Int32 × Int32 × Int32 × Nat => u.2.2.2.2.2.2.2 = 0) (fun u t => va_P G.1 nn_cls [(h0, .inr (3, [.ref x1, .ref x2, .int u.2.2.1, .int u.2.2.2.1, .int u.2.2.2.2.1, .int u.2.2.2.2.2.1, .int u.2.2.2.2.2.2.1, .int (nI u.2.2.2.2.2.2.2)])), (x1, .inl (G.2 0, 200, .inl (u.1))), (x2, .inl (G.2 0, 8, .inl (u.2.1)))] t.heap ∧ va_D (va_A [(h0, .inr (3, [.ref x1, .ref x2, .int v1, .int v2, .int v3, .int v4, .int v5, .int (nI oc)])), (x1, .inl (G.2 0, 200, .inl (f))), (x2, .inl (G.2 0, 8, .inl (g)))] sz) [(h0, .inr (3, [.ref x1, .ref x2, .int u.2.2.1, .int u.2.2.2.1, .int u.2.2.2.2.1, .int u.2.2.2.2.2.1, .int u.2.2.2.2.2.2.1, .int (nI u.2.2.2.2.2.2.2)])), (x1, .inl (G.2 0, 200, .inl (u.1))), (x2, .inl (G.2 0, 8, .inl (u.2.1)))]) (va_A [(h0, .inr (3, [.ref x1, .ref x2, .int v1, .int v2, .int v3, .int v4, .int v5, .int (nI oc)])), (x1, .inl (G.2 0, 200, .inl (f))), (x2, .inl (G.2 0, 8, .inl (g)))] sz)) 0 0 (va_A [(h0, .inr (3, [.ref x1, .ref x2, .int v1, .int v2, .int v3, .int v4, .int v5, .int (nI oc)])), (x1, .inl (G.2 0, 200, .inl (f))), (x2, .inl (G.2 0, 8, .inl (g)))] sz) := by
  refine Met.ofW (cc := b_Ma_begin) (maxL := 1) (ret := none) (by decide) rfl ?_
  intro p e s m args below meth c s₁ B hml hv
  obtain ⟨rfl, hsz, hP, hK, hD0, hN⟩ := hv
  have hx := B.exec
  have hb := B.bytes
  have hr := B.returns
  have hts := atoms_spec (ws := w_Ma_begin) B.pre
  have hg : ∀ w ∈ nn_gw, w.before _ s = true := fun w h => hts w (List.mem_cons_of_mem _ h)
  have hown : s.vm.findClass R_Ma = some m.cls := findClass_of_methodNamed B.named
  have hlocks := B.notSynchronized
  subst hsz
  have hD := hD0.self (sz := s.heap.size)
  generalize hAe : va_A [(h0, .inr (3, [.ref x1, .ref x2, .int v1, .int v2, .int v3, .int v4, .int v5, .int (nI oc)])), (x1, .inl (G.2 0, 200, .inl (f))), (x2, .inl (G.2 0, 8, .inl (g)))] s.heap.size = A at hD ⊢
  have hA : ∀ q : Nat, s.heap.size ≤ q → A q := fun q h => by rw [← hAe]; exact Or.inr h
  have hS : va_S A s.heap s.heap [] := va_S.rf
  have hP : va_P G.1 nn_cls [(h0, .inr (3, [.ref x1, .ref x2, .int v1, .int v2, .int v3, .int v4, .int v5, .int (nI oc)])), (x1, .inl (G.2 0, 200, .inl (f))), (x2, .inl (G.2 0, 8, .inl (g)))] s.heap := hP
  have hl := lv_entry ([.ref h0]) (n := 1) (Nat.le_of_ble_eq_true rfl)
  rw [lg_entry_eq]
  generalize (lg_sl ([.ref h0]) ++ List.replicate (1 - (lg_sl ([.ref h0])).length) Slot.unset).toArray = ls at hl ⊢
  have hl : lv_has ls 1 [(0, .ref h0)] := hl
  refine lv_aload_n hx hb d_Ma_begin_0 rfl (lv_at hl 0 rfl) ?_
  have hPc := hP.sub (ws' := [(h0, .inr (3, [.ref x1, .ref x2, .int v1, .int v2, .int v3, .int v4, .int v5, .int (nI oc)])), (x1, .inl (G.2 0, 200, .inl (f))), (x2, .inl (G.2 0, 8, .inl (g)))]) [0, 1, 2] rfl
  have hDc := hD.sub (ws' := [(h0, .inr (3, [.ref x1, .ref x2, .int v1, .int v2, .int v3, .int v4, .int v5, .int (nI oc)])), (x1, .inl (G.2 0, 200, .inl (f))), (x2, .inl (G.2 0, 8, .inl (g)))]) [0, 1, 2] (by decide) rfl
  have hFc := va_free (wc := [(h0, .inr (3, [.ref x1, .ref x2, .int v1, .int v2, .int v3, .int v4, .int v5, .int (nI oc)])), (x1, .inl (G.2 0, 200, .inl (f))), (x2, .inl (G.2 0, 8, .inl (g)))]) hD hS hA [0, 1, 2] rfl
  refine va_callv (va_runV (As := []) (rest := []) ⟨hx, hb, hml, hown, hts⟩ (g_Ma_clear l G _ h0 x1 x2 f g v1 v2 v3 v4 v5 oc) (cwV 0 hts (nn_gV mw_345 mw_342 mw_343 mw_344 mw_93) rfl rfl rfl (by decide +kernel) ⟨Nat.le_of_ble_eq_true rfl, Nat.le_of_ble_eq_true rfl⟩) (nn_preV (va_recv hK hP rfl (q0 := 0) rfl) hPc hDc hK hN) rfl rfl hl.1 rfl (lv_room (Nat.le_of_ble_eq_true rfl)) d_Ma_begin_1 ⟨(Nat.le_of_ble_eq_true rfl), (Nat.le_of_ble_eq_true rfl)⟩) hS (fun q _ h => hFc q h) hFc (fun u1 t H locs ht hvm hw hB hz1 hk1 hS => ?_)
  obtain ⟨w2, w3, w4, w5, w6, w7, w8, w9⟩ := u1
  dsimp only at hB hw
  subst hw
  obtain ⟨hP1, hD1⟩ := hB
  rw [ht] at hP1
  obtain ⟨hP, hD⟩ := va_join (wr := []) (w1 := [(h0, .inr (3, [.ref x1, .ref x2, .int w4, .int w5, .int w6, .int w7, .int w8, .int (nI 0)])), (x1, .inl (G.2 0, 200, .inl (w2))), (x2, .inl (G.2 0, 8, .inl (w3)))]) hP hD [0, 1, 2] [] rfl rfl (by decide) (by decide) hk1 hFc hP1 hD1
  have hP : va_P G.1 nn_cls [(h0, .inr (3, [.ref x1, .ref x2, .int w4, .int w5, .int w6, .int w7, .int w8, .int (nI 0)])), (x1, .inl (G.2 0, 200, .inl (w2))), (x2, .inl (G.2 0, 8, .inl (w3)))] H := hP
  have hD : va_D A [(h0, .inr (3, [.ref x1, .ref x2, .int w4, .int w5, .int w6, .int w7, .int w8, .int (nI 0)])), (x1, .inl (G.2 0, 200, .inl (w2))), (x2, .inl (G.2 0, 8, .inl (w3)))] := hD
  refine W.widen (k := 0) (n := 0) (Nat.le_of_ble_eq_true rfl) (Nat.le_of_ble_eq_true rfl) ?_
  refine lv_aload_n hx hb d_Ma_begin_4 rfl (lv_at hl 0 rfl) ?_
  refine lv_iconst (v := 1) hx hb d_Ma_begin_5 (by decide) ?_
  refine va_put (D := G.1) (ci := 3) (v := .int 1) (ty := .int) (C := R_Ma) (T := T_Ma) (N := 8) hx hb hg in_Ma t_Ma ok_Ma nm_Ma hown hK hP hD hS 0 rfl rfl 2 (by decide) (hg _ mw_248) (fun _ h9 => h9) rfl (by decide +kernel) rfl rfl (Nat.le_of_ble_eq_true rfl) d_Ma_begin_6 (fun H locs hP hD hS => ?_)
  have hP : va_P G.1 nn_cls [(h0, .inr (3, [.ref x1, .ref x2, .int 1, .int w5, .int w6, .int w7, .int w8, .int (nI 0)])), (x1, .inl (G.2 0, 200, .inl (w2))), (x2, .inl (G.2 0, 8, .inl (w3)))] H := hP
  have hD : va_D A [(h0, .inr (3, [.ref x1, .ref x2, .int 1, .int w5, .int w6, .int w7, .int w8, .int (nI 0)])), (x1, .inl (G.2 0, 200, .inl (w2))), (x2, .inl (G.2 0, 8, .inl (w3)))] := hD
  refine lv_aload_n hx hb d_Ma_begin_9 rfl (lv_at hl 0 rfl) ?_
  refine lv_iconst (v := 1) hx hb d_Ma_begin_10 (by decide) ?_
  refine va_put (D := G.1) (ci := 3) (v := .int 1) (ty := .int) (C := R_Ma) (T := T_Ma) (N := 8) hx hb hg in_Ma t_Ma ok_Ma nm_Ma hown hK hP hD hS 0 rfl rfl 6 (by decide) (hg _ mw_252) (fun _ h9 => h9) rfl (by decide +kernel) rfl rfl (Nat.le_of_ble_eq_true rfl) d_Ma_begin_11 (fun H locs hP hD hS => ?_)
  have hP : va_P G.1 nn_cls [(h0, .inr (3, [.ref x1, .ref x2, .int 1, .int w5, .int w6, .int w7, .int 1, .int (nI 0)])), (x1, .inl (G.2 0, 200, .inl (w2))), (x2, .inl (G.2 0, 8, .inl (w3)))] H := hP
  have hD : va_D A [(h0, .inr (3, [.ref x1, .ref x2, .int 1, .int w5, .int w6, .int w7, .int 1, .int (nI 0)])), (x1, .inl (G.2 0, 200, .inl (w2))), (x2, .inl (G.2 0, 8, .inl (w3)))] := hD
  refine W.widen (k := 0) (n := 0) (Nat.le_of_ble_eq_true rfl) (Nat.le_of_ble_eq_true rfl) ?_
  have hP9 := hP.sub (ws' := [(h0, .inr (3, [.ref x1, .ref x2, .int 1, .int w5, .int w6, .int w7, .int 1, .int (nI 0)])), (x1, .inl (G.2 0, 200, .inl (w2))), (x2, .inl (G.2 0, 8, .inl (w3)))]) [0, 1, 2] rfl
  have hD9 := hD.sub (ws' := [(h0, .inr (3, [.ref x1, .ref x2, .int 1, .int w5, .int w6, .int w7, .int 1, .int (nI 0)])), (x1, .inl (G.2 0, 200, .inl (w2))), (x2, .inl (G.2 0, 8, .inl (w3)))]) [0, 1, 2] (by decide) rfl
  exact W.vret hx hb hr (fun t ht hW => ⟨⟨(w2, w3, 1, w5, w6, w7, 1, 0), rfl, rfl, ⟨by rw [ht]; exact hP9, hD9⟩⟩, hS.F ht⟩) hS.2.2 d_Ma_begin_14

theorem d_Ma_output_0 : decode b_Ma_output 0 = .ok (.iload_n 1, 1) := by decide +kernel
theorem d_Ma_output_1 : decode b_Ma_output 1 = .ok (.ifCond .lt 17, 3) := by decide +kernel
theorem d_Ma_output_4 : decode b_Ma_output 4 = .ok (.iload_n 1, 1) := by decide +kernel
theorem d_Ma_output_5 : decode b_Ma_output 5 = .ok (.bipush 8, 2) := by decide +kernel
theorem d_Ma_output_7 : decode b_Ma_output 7 = .ok (.if_icmp .ge 11, 3) := by decide +kernel
theorem d_Ma_output_10 : decode b_Ma_output 10 = .ok (.iload_n 1, 1) := by decide +kernel
theorem d_Ma_output_11 : decode b_Ma_output 11 = .ok (.aload_n 0, 1) := by decide +kernel
theorem d_Ma_output_12 : decode b_Ma_output 12 = .ok (.getfield 34, 3) := by decide +kernel
theorem d_Ma_output_15 : decode b_Ma_output 15 = .ok (.if_icmp .lt 5, 3) := by decide +kernel
theorem d_Ma_output_18 : decode b_Ma_output 18 = .ok (.iconst 0, 1) := by decide +kernel
theorem d_Ma_output_19 : decode b_Ma_output 19 = .ok (.ireturn, 1) := by decide +kernel
theorem d_Ma_output_20 : decode b_Ma_output 20 = .ok (.aload_n 0, 1) := by decide +kernel
theorem d_Ma_output_21 : decode b_Ma_output 21 = .ok (.getfield 15, 3) := by decide +kernel
theorem d_Ma_output_24 : decode b_Ma_output 24 = .ok (.aload_n 0, 1) := by decide +kernel
theorem d_Ma_output_25 : decode b_Ma_output 25 = .ok (.getfield 34, 3) := by decide +kernel
theorem d_Ma_output_28 : decode b_Ma_output 28 = .ok (.iconst 1, 1) := by decide +kernel
theorem d_Ma_output_29 : decode b_Ma_output 29 = .ok (.isub, 1) := by decide +kernel
theorem d_Ma_output_30 : decode b_Ma_output 30 = .ok (.iload_n 1, 1) := by decide +kernel
theorem d_Ma_output_31 : decode b_Ma_output 31 = .ok (.isub, 1) := by decide +kernel
theorem d_Ma_output_32 : decode b_Ma_output 32 = .ok (.bipush 8, 2) := by decide +kernel
theorem d_Ma_output_34 : decode b_Ma_output 34 = .ok (.irem, 1) := by decide +kernel
theorem d_Ma_output_35 : decode b_Ma_output 35 = .ok (.iaload, 1) := by decide +kernel
theorem d_Ma_output_36 : decode b_Ma_output 36 = .ok (.ireturn, 1) := by decide +kernel

set_option maxHeartbeats 4000000 in
set_option maxRecDepth 100000 in
theorem g_Ma_output (l : Launch) (G : nn_G) (sz : Nat) (h0 x1 x2 : Nat) (f g : Nat → Int32) (v1 v2 v3 v4 v5 : Int32) (oc : Nat) (k : Int32) (hoc : oc < 1000000) : Met l y_Ma_output w_Ma_output ({ frames := 0, cells := 0, slots := 0, locals := 0 }) (nn_P G [.ref h0, .int k] [(h0, .inr (3, [.ref x1, .ref x2, .int v1, .int v2, .int v3, .int v4, .int v5, .int (nI oc)])), (x1, .inl (G.2 0, 200, .inl (f))), (x2, .inl (G.2 0, 8, .inl (g)))] sz) (vp_Si (fun r => True)) 0 0 (fun _ => False) := by
  refine Met.ofW (cc := b_Ma_output) (maxL := 2) (ret := some .int) (by decide) rfl ?_
  intro p e s m args below meth c s₁ B hml hv
  obtain ⟨rfl, hsz, hP, hK, hD0, hN⟩ := hv
  have hx := B.exec
  have hb := B.bytes
  have hr := B.returns
  have hts := atoms_spec (ws := w_Ma_output) B.pre
  have hg : ∀ w ∈ nn_gw, w.before _ s = true := fun w h => hts w (List.mem_cons_of_mem _ h)
  have hown : s.vm.findClass R_Ma = some m.cls := findClass_of_methodNamed B.named
  have hlocks := B.notSynchronized
  subst hsz
  have hD := hD0
  generalize hAe : (fun _ : Nat => True) = A at hD
  have hA : ∀ q : Nat, s.heap.size ≤ q → A q := fun q h => by rw [← hAe]; trivial
  have hS : va_S A s.heap s.heap [] := va_S.rf
  have hP : va_P G.1 nn_cls [(h0, .inr (3, [.ref x1, .ref x2, .int v1, .int v2, .int v3, .int v4, .int v5, .int (nI oc)])), (x1, .inl (G.2 0, 200, .inl (f))), (x2, .inl (G.2 0, 8, .inl (g)))] s.heap := hP
  have hl := lv_entry ([.ref h0, .int k]) (n := 2) (Nat.le_of_ble_eq_true rfl)
  rw [lg_entry_eq]
  generalize (lg_sl ([.ref h0, .int k]) ++ List.replicate (2 - (lg_sl ([.ref h0, .int k])).length) Slot.unset).toArray = ls at hl ⊢
  have hl : lv_has ls 2 [(0, .ref h0), (1, .int k)] := hl
  refine lv_iload_n hx hb d_Ma_output_0 rfl (lv_at hl 1 rfl) ?_
  refine lv_if_lt (tgt := 18) hx hb d_Ma_output_1 rfl (fun hc1 => ?_) (fun hc1 => ?_)
  · skip
    refine lv_iconst (v := 0) hx hb d_Ma_output_18 (by decide) ?_
    exact W.iret (v := 0) hx hb hr (fun t ht hW => ⟨0, rfl, trivial, ht⟩) (fun q h => by cases h) d_Ma_output_19
  · skip
    refine lv_iload_n hx hb d_Ma_output_4 rfl (lv_at hl 1 rfl) ?_
    refine lv_bipush (v := 8) hx hb d_Ma_output_5 (by decide) ?_
    refine lv_icmp_ge (tgt := 18) hx hb d_Ma_output_7 rfl (fun hc7 => ?_) (fun hc7 => ?_)
    · skip
      refine lv_iconst (v := 0) hx hb d_Ma_output_18 (by decide) ?_
      exact W.iret (v := 0) hx hb hr (fun t ht hW => ⟨0, rfl, trivial, ht⟩) (fun q h => by cases h) d_Ma_output_19
    · skip
      refine lv_iload_n hx hb d_Ma_output_10 rfl (lv_at hl 1 rfl) ?_
      refine lv_aload_n hx hb d_Ma_output_11 rfl (lv_at hl 0 rfl) ?_
      refine va_get (D := G.1) (ci := 3) (v := .int (nI oc)) (C := R_Ma) (T := T_Ma) (N := 8) hx hb hg in_Ma hown hK hP 0 rfl rfl 7 (by decide) (hg _ mw_253) (fun _ h9 => h9) rfl d_Ma_output_12 ?_
      refine lv_icmp_lt (tgt := 20) hx hb d_Ma_output_15 rfl (fun hc15 => ?_) (fun hc15 => ?_)
      · skip
        refine lv_aload_n hx hb d_Ma_output_20 rfl (lv_at hl 0 rfl) ?_
        refine va_get (D := G.1) (ci := 3) (v := .ref x2) (C := R_Ma) (T := T_Ma) (N := 8) hx hb hg in_Ma hown hK hP 0 rfl rfl 1 (by decide) (hg _ mw_247) (fun _ h9 => h9) rfl d_Ma_output_21 ?_
        refine lv_aload_n hx hb d_Ma_output_24 rfl (lv_at hl 0 rfl) ?_
        refine va_get (D := G.1) (ci := 3) (v := .int (nI oc)) (C := R_Ma) (T := T_Ma) (N := 8) hx hb hg in_Ma hown hK hP 0 rfl rfl 7 (by decide) (hg _ mw_253) (fun _ h9 => h9) rfl d_Ma_output_25 ?_
        refine lv_iconst (v := 1) hx hb d_Ma_output_28 (by decide) ?_
        refine lv_isub hx hb d_Ma_output_29 ?_
        refine lv_iload_n hx hb d_Ma_output_30 rfl (lv_at hl 1 rfl) ?_
        refine lv_isub hx hb d_Ma_output_31 ?_
        obtain ⟨jj, hjj, hkj⟩ := nI_of hc1
        have hjo : jj < oc := nb_ltI (by rw [← hkj]; exact hc15) hjj (by omega)
        refine nb_top (nI (oc - 1 - jj)) (nb_sub1 hkj hjo) ?_
        refine lv_bipush (v := 8) hx hb d_Ma_output_32 (by decide) ?_
        refine lv_irem hx hb d_Ma_output_34 (by decide) ?_
        refine nb_top (nI ((oc - 1 - jj) % 8)) (pk_rem (by omega) (by decide) (by decide)) ?_
        refine va_iald hx hb hK hP 2 0 rfl rfl (vp_in_nI (Nat.mod_lt _ (by decide)) (by decide)) d_Ma_output_35 ?_
        exact W.iret (v := (g) (nI ((oc - 1 - jj) % 8)).toNatClampNeg) hx hb hr (fun t ht hW => ⟨(g) (nI ((oc - 1 - jj) % 8)).toNatClampNeg, rfl, trivial, ht⟩) (fun q h => by cases h) d_Ma_output_36
      · skip
        refine lv_iconst (v := 0) hx hb d_Ma_output_18 (by decide) ?_
        exact W.iret (v := 0) hx hb hr (fun t ht hW => ⟨0, rfl, trivial, ht⟩) (fun q h => by cases h) d_Ma_output_19

theorem d_Ma_found_0 : decode b_Ma_found 0 = .ok (.aload_n 0, 1) := by decide +kernel
theorem d_Ma_found_1 : decode b_Ma_found 1 = .ok (.getfield 18, 3) := by decide +kernel
theorem d_Ma_found_4 : decode b_Ma_found 4 = .ok (.iconst 1, 1) := by decide +kernel
theorem d_Ma_found_5 : decode b_Ma_found 5 = .ok (.if_icmp .ne 7, 3) := by decide +kernel
theorem d_Ma_found_8 : decode b_Ma_found 8 = .ok (.iload_n 1, 1) := by decide +kernel
theorem d_Ma_found_9 : decode b_Ma_found 9 = .ok (.ifCond .ge 5, 3) := by decide +kernel
theorem d_Ma_found_12 : decode b_Ma_found 12 = .ok (.iconst 0, 1) := by decide +kernel
theorem d_Ma_found_13 : decode b_Ma_found 13 = .ok (.ireturn, 1) := by decide +kernel
theorem d_Ma_found_14 : decode b_Ma_found 14 = .ok (.aload_n 0, 1) := by decide +kernel
theorem d_Ma_found_15 : decode b_Ma_found 15 = .ok (.iload_n 1, 1) := by decide +kernel
theorem d_Ma_found_16 : decode b_Ma_found 16 = .ok (.invokevirtual 50, 3) := by decide +kernel
theorem d_Ma_found_19 : decode b_Ma_found 19 = .ok (.i2l, 1) := by decide +kernel
theorem d_Ma_found_20 : decode b_Ma_found 20 = .ok (.iload_n 2, 1) := by decide +kernel
theorem d_Ma_found_21 : decode b_Ma_found 21 = .ok (.i2l, 1) := by decide +kernel
theorem d_Ma_found_22 : decode b_Ma_found 22 = .ok (.ladd, 1) := by decide +kernel
theorem d_Ma_found_23 : decode b_Ma_found 23 = .ok (.lstore_n 3, 1) := by decide +kernel
theorem d_Ma_found_24 : decode b_Ma_found 24 = .ok (.lload_n 3, 1) := by decide +kernel
theorem d_Ma_found_25 : decode b_Ma_found 25 = .ok (.lconst 0, 1) := by decide +kernel
theorem d_Ma_found_26 : decode b_Ma_found 26 = .ok (.lcmp, 1) := by decide +kernel
theorem d_Ma_found_27 : decode b_Ma_found 27 = .ok (.ifCond .lt 22, 3) := by decide +kernel
theorem d_Ma_found_30 : decode b_Ma_found 30 = .ok (.lload_n 3, 1) := by decide +kernel
theorem d_Ma_found_31 : decode b_Ma_found 31 = .ok (.aload_n 0, 1) := by decide +kernel
theorem d_Ma_found_32 : decode b_Ma_found 32 = .ok (.getfield 28, 3) := by decide +kernel
theorem d_Ma_found_35 : decode b_Ma_found 35 = .ok (.i2l, 1) := by decide +kernel
theorem d_Ma_found_36 : decode b_Ma_found 36 = .ok (.lcmp, 1) := by decide +kernel
theorem d_Ma_found_37 : decode b_Ma_found 37 = .ok (.ifCond .gt 12, 3) := by decide +kernel
theorem d_Ma_found_40 : decode b_Ma_found 40 = .ok (.aload_n 0, 1) := by decide +kernel
theorem d_Ma_found_41 : decode b_Ma_found 41 = .ok (.lload_n 3, 1) := by decide +kernel
theorem d_Ma_found_42 : decode b_Ma_found 42 = .ok (.l2i, 1) := by decide +kernel
theorem d_Ma_found_43 : decode b_Ma_found 43 = .ok (.invokevirtual 46, 3) := by decide +kernel
theorem d_Ma_found_46 : decode b_Ma_found 46 = .ok (.goto 4, 3) := by decide +kernel
theorem d_Ma_found_49 : decode b_Ma_found 49 = .ok (.iconst 0, 1) := by decide +kernel
theorem d_Ma_found_50 : decode b_Ma_found 50 = .ok (.ireturn, 1) := by decide +kernel

set_option maxHeartbeats 4000000 in
set_option maxRecDepth 100000 in
theorem g_Ma_found (l : Launch) (G : nn_G) (sz : Nat) (h0 x1 x2 : Nat) (f g : Nat → Int32) (v1 v2 v3 v4 v5 : Int32) (oc : Nat) (k j : Int32) : Met l y_Ma_found w_Ma_found ({ frames := 2, cells := 0, slots := 0, locals := 44 }) (nn_P G [.ref h0, .int k, .int j] [(h0, .inr (3, [.ref x1, .ref x2, .int v1, .int v2, .int v3, .int v4, .int v5, .int (nI oc)])), (x1, .inl (G.2 0, 200, .inl (f))), (x2, .inl (G.2 0, 8, .inl (g)))] sz) (vp_Si (fun r => True)) 0 0 (fun _ => False) := by
  refine Met.ofW (cc := b_Ma_found) (maxL := 5) (ret := some .int) (by decide) rfl ?_
  intro p e s m args below meth c s₁ B hml hv
  obtain ⟨rfl, hsz, hP, hK, hD0, hN⟩ := hv
  have hx := B.exec
  have hb := B.bytes
  have hr := B.returns
  have hts := atoms_spec (ws := w_Ma_found) B.pre
  have hg : ∀ w ∈ nn_gw, w.before _ s = true := fun w h => hts w (List.mem_cons_of_mem _ h)
  have hown : s.vm.findClass R_Ma = some m.cls := findClass_of_methodNamed B.named
  have hlocks := B.notSynchronized
  subst hsz
  have hD := hD0
  generalize hAe : (fun _ : Nat => True) = A at hD
  have hA : ∀ q : Nat, s.heap.size ≤ q → A q := fun q h => by rw [← hAe]; trivial
  have hS : va_S A s.heap s.heap [] := va_S.rf
  have hP : va_P G.1 nn_cls [(h0, .inr (3, [.ref x1, .ref x2, .int v1, .int v2, .int v3, .int v4, .int v5, .int (nI oc)])), (x1, .inl (G.2 0, 200, .inl (f))), (x2, .inl (G.2 0, 8, .inl (g)))] s.heap := hP
  have hl := lv_entry ([.ref h0, .int k, .int j]) (n := 5) (Nat.le_of_ble_eq_true rfl)
  rw [lg_entry_eq]
  generalize (lg_sl ([.ref h0, .int k, .int j]) ++ List.replicate (5 - (lg_sl ([.ref h0, .int k, .int j])).length) Slot.unset).toArray = ls at hl ⊢
  have hl : lv_has ls 5 [(0, .ref h0), (1, .int k), (2, .int j)] := hl
  refine lv_aload_n hx hb d_Ma_found_0 rfl (lv_at hl 0 rfl) ?_
  refine va_get (D := G.1) (ci := 3) (v := .int v1) (C := R_Ma) (T := T_Ma) (N := 8) hx hb hg in_Ma hown hK hP 0 rfl rfl 2 (by decide) (hg _ mw_248) (fun _ h9 => h9) rfl d_Ma_found_1 ?_
  refine lv_iconst (v := 1) hx hb d_Ma_found_4 (by decide) ?_
  refine lv_icmp_ne (tgt := 12) hx hb d_Ma_found_5 rfl (fun hc5 => ?_) (fun hc5 => ?_)
  · skip
    refine lv_iconst (v := 0) hx hb d_Ma_found_12 (by decide) ?_
    exact W.iret (v := 0) hx hb hr (fun t ht hW => ⟨0, rfl, trivial, ht⟩) (fun q h => by cases h) d_Ma_found_13
  · skip
    refine lv_iload_n hx hb d_Ma_found_8 rfl (lv_at hl 1 rfl) ?_
    refine lv_if_ge (tgt := 14) hx hb d_Ma_found_9 rfl (fun hc9 => ?_) (fun hc9 => ?_)
    · skip
      refine lv_aload_n hx hb d_Ma_found_14 rfl (lv_at hl 0 rfl) ?_
      refine lv_iload_n hx hb d_Ma_found_15 rfl (lv_at hl 1 rfl) ?_
      have hPc := hP.sub (ws' := [(h0, .inr (3, [.ref x1, .ref x2, .int v1, .int v2, .int v3, .int v4, .int v5, .int (nI oc)])), (x1, .inl (G.2 0, 200, .inl (f))), (x2, .inl (G.2 0, 8, .inl (g)))]) [0, 1, 2] rfl
      have hDc := hD.sub (ws' := [(h0, .inr (3, [.ref x1, .ref x2, .int v1, .int v2, .int v3, .int v4, .int v5, .int (nI oc)])), (x1, .inl (G.2 0, 200, .inl (f))), (x2, .inl (G.2 0, 8, .inl (g)))]) [0, 1, 2] (by decide) rfl
      refine vp_callSi (va_Run.run (va_runV (As := [.int k]) (rest := []) ⟨hx, hb, hml, hown, hts⟩ (g_Ma_linked l G _ h0 x1 x2 f g v1 v2 v3 v4 v5 oc k) (cwV 1 hts (nn_gV mw_388 mw_385 mw_387 mw_3 mw_93) rfl rfl rfl (by decide +kernel) ⟨Nat.le_of_ble_eq_true rfl, Nat.le_of_ble_eq_true rfl⟩) (nn_preV (va_recv hK hP rfl (q0 := 0) rfl) hPc hDc hK hN) rfl rfl hl.1 rfl (lv_room (Nat.le_of_ble_eq_true rfl)) d_Ma_found_16 ⟨(Nat.le_of_ble_eq_true rfl), (Nat.le_of_ble_eq_true rfl)⟩)) (fun r1 er1 => ?_)
      refine lv_i2l (v := r1.toInt64) hx hb d_Ma_found_19 (rfl) ?_
      refine lv_iload_n hx hb d_Ma_found_20 rfl (lv_at hl 2 rfl) ?_
      refine lv_i2l (v := j.toInt64) hx hb d_Ma_found_21 (rfl) ?_
      refine lv_ladd hx hb d_Ma_found_22 ?_
      refine lv_lstore_n (lv' := [(3, .long (r1.toInt64 + j.toInt64)), (0, .ref h0), (1, .int k), (2, .int j)]) hx hb d_Ma_found_23 rfl hl (by decide) rfl (fun ls hl => ?_)
      refine lv_lload_n hx hb d_Ma_found_24 rfl (lv_at hl 0 rfl) ?_
      refine lv_lconst (v := 0) hx hb d_Ma_found_25 (by decide) ?_
      refine W.lcmp hx hb d_Ma_found_26 ?_
      refine lv_if_lt (tgt := 49) hx hb d_Ma_found_27 rfl (fun hc27 => ?_) (fun hc27 => ?_)
      · skip
        refine lv_iconst (v := 0) hx hb d_Ma_found_49 (by decide) ?_
        exact W.iret (v := 0) hx hb hr (fun t ht hW => ⟨0, rfl, trivial, ht⟩) (fun q h => by cases h) d_Ma_found_50
      · skip
        refine lv_lload_n hx hb d_Ma_found_30 rfl (lv_at hl 0 rfl) ?_
        refine lv_aload_n hx hb d_Ma_found_31 rfl (lv_at hl 1 rfl) ?_
        refine va_get (D := G.1) (ci := 3) (v := .int v4) (C := R_Ma) (T := T_Ma) (N := 8) hx hb hg in_Ma hown hK hP 0 rfl rfl 5 (by decide) (hg _ mw_251) (fun _ h9 => h9) rfl d_Ma_found_32 ?_
        refine lv_i2l (v := v4.toInt64) hx hb d_Ma_found_35 (rfl) ?_
        refine W.lcmp hx hb d_Ma_found_36 ?_
        refine lv_if_gt (tgt := 49) hx hb d_Ma_found_37 rfl (fun hc37 => ?_) (fun hc37 => ?_)
        · skip
          refine lv_iconst (v := 0) hx hb d_Ma_found_49 (by decide) ?_
          exact W.iret (v := 0) hx hb hr (fun t ht hW => ⟨0, rfl, trivial, ht⟩) (fun q h => by cases h) d_Ma_found_50
        · skip
          refine lv_aload_n hx hb d_Ma_found_40 rfl (lv_at hl 1 rfl) ?_
          refine lv_lload_n hx hb d_Ma_found_41 rfl (lv_at hl 0 rfl) ?_
          refine lv_l2i (v := (r1.toInt64 + j.toInt64).toInt32) hx hb d_Ma_found_42 rfl ?_
          have hPc := hP.sub (ws' := [(h0, .inr (3, [.ref x1, .ref x2, .int v1, .int v2, .int v3, .int v4, .int v5, .int (nI oc)])), (x1, .inl (G.2 0, 200, .inl (f))), (x2, .inl (G.2 0, 8, .inl (g)))]) [0, 1, 2] rfl
          have hDc := hD.sub (ws' := [(h0, .inr (3, [.ref x1, .ref x2, .int v1, .int v2, .int v3, .int v4, .int v5, .int (nI oc)])), (x1, .inl (G.2 0, 200, .inl (f))), (x2, .inl (G.2 0, 8, .inl (g)))]) [0, 1, 2] (by decide) rfl
          refine vp_callSi (va_Run.run (va_runV (As := [.int ((r1.toInt64 + j.toInt64).toInt32)]) (rest := []) ⟨hx, hb, hml, hown, hts⟩ (g_Ma_at l G _ h0 x1 x2 f g v1 v2 v3 v4 v5 oc ((r1.toInt64 + j.toInt64).toInt32)) (cwV 1 hts (nn_gV mw_368 mw_365 mw_367 mw_2 mw_93) rfl rfl rfl (by decide +kernel) ⟨Nat.le_of_ble_eq_true rfl, Nat.le_of_ble_eq_true rfl⟩) (nn_preV (va_recv hK hP rfl (q0 := 0) rfl) hPc hDc hK hN) rfl rfl hl.1 rfl (lv_room (Nat.le_of_ble_eq_true rfl)) d_Ma_found_43 ⟨(Nat.le_of_ble_eq_true rfl), (Nat.le_of_ble_eq_true rfl)⟩)) (fun r2 er2 => ?_)
          refine lv_goto (tgt := 50) hx hb d_Ma_found_46 rfl ?_
          exact W.iret (v := r2) hx hb hr (fun t ht hW => ⟨r2, rfl, trivial, ht⟩) (fun q h => by cases h) d_Ma_found_50
    · skip
      refine lv_iconst (v := 0) hx hb d_Ma_found_12 (by decide) ?_
      exact W.iret (v := 0) hx hb hr (fun t ht hW => ⟨0, rfl, trivial, ht⟩) (fun q h => by cases h) d_Ma_found_13
