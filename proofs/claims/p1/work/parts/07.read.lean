/-! contracts (by wip/p1/gen.py) -/
theorem d_Ma_isRunning_0 : decode b_Ma_isRunning 0 = .ok (.aload_n 0, 1) := by decide +kernel
theorem d_Ma_isRunning_1 : decode b_Ma_isRunning 1 = .ok (.getfield 18, 3) := by decide +kernel
theorem d_Ma_isRunning_4 : decode b_Ma_isRunning 4 = .ok (.iconst 1, 1) := by decide +kernel
theorem d_Ma_isRunning_5 : decode b_Ma_isRunning 5 = .ok (.if_icmp .ne 7, 3) := by decide +kernel
theorem d_Ma_isRunning_12 : decode b_Ma_isRunning 12 = .ok (.iconst 0, 1) := by decide +kernel
theorem d_Ma_isRunning_13 : decode b_Ma_isRunning 13 = .ok (.ireturn, 1) := by decide +kernel

set_option maxHeartbeats 4000000 in
set_option maxRecDepth 100000 in
theorem c_Ma_isRunning (l : Launch) (G : nn_G) (sz : Nat) (h0 x1 x2 : Nat) : Met l y_Ma_isRunning w_Ma_isRunning ({ frames := 0, cells := 0, slots := 0, locals := 0 }) (nn_P G [.ref h0] [(h0, .inr (3, [.ref x1, .ref x2, .int 0, .int 0, .int 0, .int (-1), .int 0, .int 0]))] sz) (vp_Si (fun r => r = 0)) 0 0 (fun _ => False) := by
  refine Met.ofW (cc := b_Ma_isRunning) (maxL := 1) (ret := some .boolean) (by decide) rfl ?_
  intro p e s m args below meth c s₁ B hml hv
  obtain ⟨rfl, hsz, hP, hK, hD0, hN⟩ := hv
  have hx := B.exec
  have hb := B.bytes
  have hr := B.returns
  have hts := atoms_spec (ws := w_Ma_isRunning) B.pre
  have hg : ∀ w ∈ nn_gw, w.before _ s = true := fun w h => hts w (List.mem_cons_of_mem _ h)
  have hown : s.vm.findClass R_Ma = some m.cls := findClass_of_methodNamed B.named
  have hlocks := B.notSynchronized
  subst hsz
  have hD := hD0
  generalize hAe : (fun _ : Nat => True) = A at hD
  have hA : ∀ q : Nat, s.heap.size ≤ q → A q := fun q h => by rw [← hAe]; trivial
  have hS : va_S A s.heap s.heap [] := va_S.rf
  have hP : va_P G.1 nn_cls [(h0, .inr (3, [.ref x1, .ref x2, .int 0, .int 0, .int 0, .int (-1), .int 0, .int 0]))] s.heap := hP
  have hl := lv_entry ([.ref h0]) (n := 1) (Nat.le_of_ble_eq_true rfl)
  rw [lg_entry_eq]
  generalize (lg_sl ([.ref h0]) ++ List.replicate (1 - (lg_sl ([.ref h0])).length) Slot.unset).toArray = ls at hl ⊢
  have hl : lv_has ls 1 [(0, .ref h0)] := hl
  refine lv_aload_n hx hb d_Ma_isRunning_0 rfl (lv_at hl 0 rfl) ?_
  refine va_get (D := G.1) (ci := 3) (v := .int 0) (C := R_Ma) (T := T_Ma) (N := 8) hx hb hg in_Ma hown hK hP 0 rfl rfl 2 (by decide) (hg _ mw_248) (fun _ h9 => h9) rfl d_Ma_isRunning_1 ?_
  refine lv_iconst (v := 1) hx hb d_Ma_isRunning_4 (by decide) ?_
  refine lv_icmp_ne (tgt := 12) hx hb d_Ma_isRunning_5 rfl (fun _ => ?_) (fun h => absurd h (by decide))
  refine lv_iconst (v := 0) hx hb d_Ma_isRunning_12 (by decide) ?_
  exact W.zret (v := 0) hx hb hr rfl (fun t ht hW => ⟨0, rfl, rfl, ht⟩) (fun q h => by cases h) d_Ma_isRunning_13

theorem d_Ma_fact_0 : decode b_Ma_fact 0 = .ok (.iload_n 1, 1) := by decide +kernel
theorem d_Ma_fact_1 : decode b_Ma_fact 1 = .ok (.tableswitch 69 0 5 #[39, 44, 49, 54, 59, 64], 39) := by decide +kernel
theorem d_Ma_fact_40 : decode b_Ma_fact 40 = .ok (.aload_n 0, 1) := by decide +kernel
theorem d_Ma_fact_41 : decode b_Ma_fact 41 = .ok (.getfield 18, 3) := by decide +kernel
theorem d_Ma_fact_44 : decode b_Ma_fact 44 = .ok (.ireturn, 1) := by decide +kernel
theorem d_Ma_fact_45 : decode b_Ma_fact 45 = .ok (.aload_n 0, 1) := by decide +kernel
theorem d_Ma_fact_46 : decode b_Ma_fact 46 = .ok (.getfield 22, 3) := by decide +kernel
theorem d_Ma_fact_49 : decode b_Ma_fact 49 = .ok (.ireturn, 1) := by decide +kernel
theorem d_Ma_fact_50 : decode b_Ma_fact 50 = .ok (.aload_n 0, 1) := by decide +kernel
theorem d_Ma_fact_51 : decode b_Ma_fact 51 = .ok (.getfield 25, 3) := by decide +kernel
theorem d_Ma_fact_54 : decode b_Ma_fact 54 = .ok (.ireturn, 1) := by decide +kernel
theorem d_Ma_fact_55 : decode b_Ma_fact 55 = .ok (.aload_n 0, 1) := by decide +kernel
theorem d_Ma_fact_56 : decode b_Ma_fact 56 = .ok (.getfield 28, 3) := by decide +kernel
theorem d_Ma_fact_59 : decode b_Ma_fact 59 = .ok (.ireturn, 1) := by decide +kernel
theorem d_Ma_fact_60 : decode b_Ma_fact 60 = .ok (.aload_n 0, 1) := by decide +kernel
theorem d_Ma_fact_61 : decode b_Ma_fact 61 = .ok (.getfield 31, 3) := by decide +kernel
theorem d_Ma_fact_64 : decode b_Ma_fact 64 = .ok (.ireturn, 1) := by decide +kernel
theorem d_Ma_fact_65 : decode b_Ma_fact 65 = .ok (.aload_n 0, 1) := by decide +kernel
theorem d_Ma_fact_66 : decode b_Ma_fact 66 = .ok (.getfield 34, 3) := by decide +kernel
theorem d_Ma_fact_69 : decode b_Ma_fact 69 = .ok (.ireturn, 1) := by decide +kernel
theorem d_Ma_fact_70 : decode b_Ma_fact 70 = .ok (.iconst (-1), 1) := by decide +kernel
theorem d_Ma_fact_71 : decode b_Ma_fact 71 = .ok (.ireturn, 1) := by decide +kernel

set_option maxHeartbeats 4000000 in
set_option maxRecDepth 100000 in
theorem c_Ma_fact (l : Launch) (G : nn_G) (sz : Nat) (h0 x1 x2 : Nat) (w : Int32) : Met l y_Ma_fact w_Ma_fact ({ frames := 0, cells := 0, slots := 0, locals := 0 }) (nn_P G [.ref h0, .int w] [(h0, .inr (3, [.ref x1, .ref x2, .int 0, .int 0, .int 0, .int (-1), .int 0, .int 0]))] sz) (vp_Si (fun r => r = nb_ab w)) 0 0 (fun _ => False) := by
  refine Met.ofW (cc := b_Ma_fact) (maxL := 2) (ret := some .int) (by decide) rfl ?_
  intro p e s m args below meth c s₁ B hml hv
  obtain ⟨rfl, hsz, hP, hK, hD0, hN⟩ := hv
  have hx := B.exec
  have hb := B.bytes
  have hr := B.returns
  have hts := atoms_spec (ws := w_Ma_fact) B.pre
  have hg : ∀ w ∈ nn_gw, w.before _ s = true := fun w h => hts w (List.mem_cons_of_mem _ h)
  have hown : s.vm.findClass R_Ma = some m.cls := findClass_of_methodNamed B.named
  have hlocks := B.notSynchronized
  subst hsz
  have hD := hD0
  generalize hAe : (fun _ : Nat => True) = A at hD
  have hA : ∀ q : Nat, s.heap.size ≤ q → A q := fun q h => by rw [← hAe]; trivial
  have hS : va_S A s.heap s.heap [] := va_S.rf
  have hP : va_P G.1 nn_cls [(h0, .inr (3, [.ref x1, .ref x2, .int 0, .int 0, .int 0, .int (-1), .int 0, .int 0]))] s.heap := hP
  have hl := lv_entry ([.ref h0, .int w]) (n := 2) (Nat.le_of_ble_eq_true rfl)
  rw [lg_entry_eq]
  generalize (lg_sl ([.ref h0, .int w]) ++ List.replicate (2 - (lg_sl ([.ref h0, .int w])).length) Slot.unset).toArray = ls at hl ⊢
  have hl : lv_has ls 2 [(0, .ref h0), (1, .int w)] := hl
  refine lv_iload_n hx hb d_Ma_fact_0 rfl (lv_at hl 1 rfl) ?_
  by_cases hk1_0 : w = 0
  · skip
    refine lv_tableIn (off := 39) (tgt := 40) hx hb d_Ma_fact_1 (by rw [hk1_0]; decide) (by rw [hk1_0]; decide) (by rw [hk1_0]; decide) rfl ?_
    refine lv_aload_n hx hb d_Ma_fact_40 rfl (lv_at hl 0 rfl) ?_
    refine va_get (D := G.1) (ci := 3) (v := .int 0) (C := R_Ma) (T := T_Ma) (N := 8) hx hb hg in_Ma hown hK hP 0 rfl rfl 2 (by decide) (hg _ mw_248) (fun _ h9 => h9) rfl d_Ma_fact_41 ?_
    exact W.iret (v := 0) hx hb hr (fun t ht hW => ⟨0, rfl, by simp [nb_ab, hk1_0], ht⟩) (fun q h => by cases h) d_Ma_fact_44
  by_cases hk1_1 : w = 1
  · skip
    refine lv_tableIn (off := 44) (tgt := 45) hx hb d_Ma_fact_1 (by rw [hk1_1]; decide) (by rw [hk1_1]; decide) (by rw [hk1_1]; decide) rfl ?_
    refine lv_aload_n hx hb d_Ma_fact_45 rfl (lv_at hl 0 rfl) ?_
    refine va_get (D := G.1) (ci := 3) (v := .int 0) (C := R_Ma) (T := T_Ma) (N := 8) hx hb hg in_Ma hown hK hP 0 rfl rfl 3 (by decide) (hg _ mw_249) (fun _ h9 => h9) rfl d_Ma_fact_46 ?_
    exact W.iret (v := 0) hx hb hr (fun t ht hW => ⟨0, rfl, by simp [nb_ab, hk1_1], ht⟩) (fun q h => by cases h) d_Ma_fact_49
  by_cases hk1_2 : w = 2
  · skip
    refine lv_tableIn (off := 49) (tgt := 50) hx hb d_Ma_fact_1 (by rw [hk1_2]; decide) (by rw [hk1_2]; decide) (by rw [hk1_2]; decide) rfl ?_
    refine lv_aload_n hx hb d_Ma_fact_50 rfl (lv_at hl 0 rfl) ?_
    refine va_get (D := G.1) (ci := 3) (v := .int 0) (C := R_Ma) (T := T_Ma) (N := 8) hx hb hg in_Ma hown hK hP 0 rfl rfl 4 (by decide) (hg _ mw_250) (fun _ h9 => h9) rfl d_Ma_fact_51 ?_
    exact W.iret (v := 0) hx hb hr (fun t ht hW => ⟨0, rfl, by simp [nb_ab, hk1_2], ht⟩) (fun q h => by cases h) d_Ma_fact_54
  by_cases hk1_3 : w = 3
  · skip
    refine lv_tableIn (off := 54) (tgt := 55) hx hb d_Ma_fact_1 (by rw [hk1_3]; decide) (by rw [hk1_3]; decide) (by rw [hk1_3]; decide) rfl ?_
    refine lv_aload_n hx hb d_Ma_fact_55 rfl (lv_at hl 0 rfl) ?_
    refine va_get (D := G.1) (ci := 3) (v := .int (-1)) (C := R_Ma) (T := T_Ma) (N := 8) hx hb hg in_Ma hown hK hP 0 rfl rfl 5 (by decide) (hg _ mw_251) (fun _ h9 => h9) rfl d_Ma_fact_56 ?_
    exact W.iret (v := (-1)) hx hb hr (fun t ht hW => ⟨(-1), rfl, by simp [nb_ab, hk1_3], ht⟩) (fun q h => by cases h) d_Ma_fact_59
  by_cases hk1_4 : w = 4
  · skip
    refine lv_tableIn (off := 59) (tgt := 60) hx hb d_Ma_fact_1 (by rw [hk1_4]; decide) (by rw [hk1_4]; decide) (by rw [hk1_4]; decide) rfl ?_
    refine lv_aload_n hx hb d_Ma_fact_60 rfl (lv_at hl 0 rfl) ?_
    refine va_get (D := G.1) (ci := 3) (v := .int 0) (C := R_Ma) (T := T_Ma) (N := 8) hx hb hg in_Ma hown hK hP 0 rfl rfl 6 (by decide) (hg _ mw_252) (fun _ h9 => h9) rfl d_Ma_fact_61 ?_
    exact W.iret (v := 0) hx hb hr (fun t ht hW => ⟨0, rfl, by simp [nb_ab, hk1_4], ht⟩) (fun q h => by cases h) d_Ma_fact_64
  by_cases hk1_5 : w = 5
  · skip
    refine lv_tableIn (off := 64) (tgt := 65) hx hb d_Ma_fact_1 (by rw [hk1_5]; decide) (by rw [hk1_5]; decide) (by rw [hk1_5]; decide) rfl ?_
    refine lv_aload_n hx hb d_Ma_fact_65 rfl (lv_at hl 0 rfl) ?_
    refine va_get (D := G.1) (ci := 3) (v := .int 0) (C := R_Ma) (T := T_Ma) (N := 8) hx hb hg in_Ma hown hK hP 0 rfl rfl 7 (by decide) (hg _ mw_253) (fun _ h9 => h9) rfl d_Ma_fact_66 ?_
    exact W.iret (v := 0) hx hb hr (fun t ht hW => ⟨0, rfl, by simp [nb_ab, hk1_5], ht⟩) (fun q h => by cases h) d_Ma_fact_69
  refine lv_tableOut (tgt := 70) hx hb d_Ma_fact_1 (nb_out6 hk1_0 hk1_1 hk1_2 hk1_3 hk1_4 hk1_5) rfl ?_
  refine lv_iconst (v := (-1)) hx hb d_Ma_fact_70 (by decide) ?_
  exact W.iret (v := (-1)) hx hb hr (fun t ht hW => ⟨(-1), rfl, by simp [nb_ab, hk1_0, hk1_1, hk1_2, hk1_3, hk1_4, hk1_5], ht⟩) (fun q h => by cases h) d_Ma_fact_71

theorem d_Ma_at_0 : decode b_Ma_at 0 = .ok (.iload_n 1, 1) := by decide +kernel
theorem d_Ma_at_1 : decode b_Ma_at 1 = .ok (.ifCond .lt 19, 3) := by decide +kernel
theorem d_Ma_at_4 : decode b_Ma_at 4 = .ok (.iload_n 1, 1) := by decide +kernel
theorem d_Ma_at_5 : decode b_Ma_at 5 = .ok (.sipush 200, 3) := by decide +kernel
theorem d_Ma_at_8 : decode b_Ma_at 8 = .ok (.if_icmp .ge 12, 3) := by decide +kernel
theorem d_Ma_at_11 : decode b_Ma_at 11 = .ok (.aload_n 0, 1) := by decide +kernel
theorem d_Ma_at_12 : decode b_Ma_at 12 = .ok (.getfield 11, 3) := by decide +kernel
theorem d_Ma_at_15 : decode b_Ma_at 15 = .ok (.iload_n 1, 1) := by decide +kernel
theorem d_Ma_at_16 : decode b_Ma_at 16 = .ok (.iaload, 1) := by decide +kernel
theorem d_Ma_at_17 : decode b_Ma_at 17 = .ok (.goto 4, 3) := by decide +kernel
theorem d_Ma_at_20 : decode b_Ma_at 20 = .ok (.iconst 0, 1) := by decide +kernel
theorem d_Ma_at_21 : decode b_Ma_at 21 = .ok (.ireturn, 1) := by decide +kernel

set_option maxHeartbeats 4000000 in
set_option maxRecDepth 100000 in
theorem c_Ma_at (l : Launch) (G : nn_G) (sz : Nat) (h0 x1 x2 : Nat) (k : Int32) : Met l y_Ma_at w_Ma_at ({ frames := 0, cells := 0, slots := 0, locals := 0 }) (nn_P G [.ref h0, .int k] [(h0, .inr (3, [.ref x1, .ref x2, .int 0, .int 0, .int 0, .int (-1), .int 0, .int 0])), (x1, .inl (G.2 0, 200, .inl (fun _ => 0)))] sz) (vp_Si (fun r => r = 0)) 0 0 (fun _ => False) := by
  refine Met.ofW (cc := b_Ma_at) (maxL := 2) (ret := some .int) (by decide) rfl ?_
  intro p e s m args below meth c s₁ B hml hv
  obtain ⟨rfl, hsz, hP, hK, hD0, hN⟩ := hv
  have hx := B.exec
  have hb := B.bytes
  have hr := B.returns
  have hts := atoms_spec (ws := w_Ma_at) B.pre
  have hg : ∀ w ∈ nn_gw, w.before _ s = true := fun w h => hts w (List.mem_cons_of_mem _ h)
  have hown : s.vm.findClass R_Ma = some m.cls := findClass_of_methodNamed B.named
  have hlocks := B.notSynchronized
  subst hsz
  have hD := hD0
  generalize hAe : (fun _ : Nat => True) = A at hD
  have hA : ∀ q : Nat, s.heap.size ≤ q → A q := fun q h => by rw [← hAe]; trivial
  have hS : va_S A s.heap s.heap [] := va_S.rf
  have hP : va_P G.1 nn_cls [(h0, .inr (3, [.ref x1, .ref x2, .int 0, .int 0, .int 0, .int (-1), .int 0, .int 0])), (x1, .inl (G.2 0, 200, .inl (fun _ => 0)))] s.heap := hP
  have hl := lv_entry ([.ref h0, .int k]) (n := 2) (Nat.le_of_ble_eq_true rfl)
  rw [lg_entry_eq]
  generalize (lg_sl ([.ref h0, .int k]) ++ List.replicate (2 - (lg_sl ([.ref h0, .int k])).length) Slot.unset).toArray = ls at hl ⊢
  have hl : lv_has ls 2 [(0, .ref h0), (1, .int k)] := hl
  refine lv_iload_n hx hb d_Ma_at_0 rfl (lv_at hl 1 rfl) ?_
  refine lv_if_lt (tgt := 20) hx hb d_Ma_at_1 rfl (fun hc1 => ?_) (fun hc1 => ?_)
  · skip
    refine lv_iconst (v := 0) hx hb d_Ma_at_20 (by decide) ?_
    exact W.iret (v := 0) hx hb hr (fun t ht hW => ⟨0, rfl, rfl, ht⟩) (fun q h => by cases h) d_Ma_at_21
  · skip
    refine lv_iload_n hx hb d_Ma_at_4 rfl (lv_at hl 1 rfl) ?_
    refine lv_sipush (v := 200) hx hb d_Ma_at_5 (by decide) ?_
    refine lv_icmp_ge (tgt := 20) hx hb d_Ma_at_8 rfl (fun hc8 => ?_) (fun hc8 => ?_)
    · skip
      refine lv_iconst (v := 0) hx hb d_Ma_at_20 (by decide) ?_
      exact W.iret (v := 0) hx hb hr (fun t ht hW => ⟨0, rfl, rfl, ht⟩) (fun q h => by cases h) d_Ma_at_21
    · skip
      refine lv_aload_n hx hb d_Ma_at_11 rfl (lv_at hl 0 rfl) ?_
      refine va_get (D := G.1) (ci := 3) (v := .ref x1) (C := R_Ma) (T := T_Ma) (N := 8) hx hb hg in_Ma hown hK hP 0 rfl rfl 0 (by decide) (hg _ mw_246) (fun _ h9 => h9) rfl d_Ma_at_12 ?_
      refine lv_iload_n hx hb d_Ma_at_15 rfl (lv_at hl 1 rfl) ?_
      refine va_iald hx hb hK hP 1 0 rfl rfl (nb_inr (n := 200) hc1 hc8 (by decide)) d_Ma_at_16 ?_
      refine nb_top 0 rfl ?_
      refine lv_goto (tgt := 21) hx hb d_Ma_at_17 rfl ?_
      exact W.iret (v := 0) hx hb hr (fun t ht hW => ⟨0, rfl, rfl, ht⟩) (fun q h => by cases h) d_Ma_at_21

theorem mw_2 : (.selects R_Ma y_Ma_at y_Ma_at : Cond) ∈ nn_gw := nn_at 2 (by decide +kernel) (by decide +kernel)
theorem mw_365 : (.methodLink R_Ma 46 y_Ma_at : Cond) ∈ nn_gw := nn_at 365 (by decide +kernel) (by decide +kernel)
theorem mw_367 : (.instanceMethod y_Ma_at : Cond) ∈ nn_gw := nn_at 367 (by decide +kernel) (by decide +kernel)
theorem mw_368 : (.code y_Ma_at b_Ma_at 2 (some .int) : Cond) ∈ nn_gw := nn_at 368 (by decide +kernel) (by decide +kernel)
theorem d_Ma_visibleCell_0 : decode b_Ma_visibleCell 0 = .ok (.iload_n 1, 1) := by decide +kernel
theorem d_Ma_visibleCell_1 : decode b_Ma_visibleCell 1 = .ok (.aload_n 0, 1) := by decide +kernel
theorem d_Ma_visibleCell_2 : decode b_Ma_visibleCell 2 = .ok (.getfield 25, 3) := by decide +kernel
theorem d_Ma_visibleCell_5 : decode b_Ma_visibleCell 5 = .ok (.if_icmp .lt 17, 3) := by decide +kernel
theorem d_Ma_visibleCell_8 : decode b_Ma_visibleCell 8 = .ok (.iload_n 1, 1) := by decide +kernel
theorem d_Ma_visibleCell_9 : decode b_Ma_visibleCell 9 = .ok (.aload_n 0, 1) := by decide +kernel
theorem d_Ma_visibleCell_10 : decode b_Ma_visibleCell 10 = .ok (.getfield 25, 3) := by decide +kernel
theorem d_Ma_visibleCell_13 : decode b_Ma_visibleCell 13 = .ok (.iconst 3, 1) := by decide +kernel
theorem d_Ma_visibleCell_14 : decode b_Ma_visibleCell 14 = .ok (.iadd, 1) := by decide +kernel
theorem d_Ma_visibleCell_15 : decode b_Ma_visibleCell 15 = .ok (.if_icmp .ge 7, 3) := by decide +kernel
theorem d_Ma_visibleCell_18 : decode b_Ma_visibleCell 18 = .ok (.iconst 1, 1) := by decide +kernel
theorem d_Ma_visibleCell_19 : decode b_Ma_visibleCell 19 = .ok (.goto 4, 3) := by decide +kernel
theorem d_Ma_visibleCell_22 : decode b_Ma_visibleCell 22 = .ok (.iconst 0, 1) := by decide +kernel
theorem d_Ma_visibleCell_23 : decode b_Ma_visibleCell 23 = .ok (.istore_n 2, 1) := by decide +kernel
theorem d_Ma_visibleCell_24 : decode b_Ma_visibleCell 24 = .ok (.iload_n 1, 1) := by decide +kernel
theorem d_Ma_visibleCell_25 : decode b_Ma_visibleCell 25 = .ok (.aload_n 0, 1) := by decide +kernel
theorem d_Ma_visibleCell_26 : decode b_Ma_visibleCell 26 = .ok (.getfield 28, 3) := by decide +kernel
theorem d_Ma_visibleCell_29 : decode b_Ma_visibleCell 29 = .ok (.if_icmp .le 7, 3) := by decide +kernel
theorem d_Ma_visibleCell_32 : decode b_Ma_visibleCell 32 = .ok (.iload_n 2, 1) := by decide +kernel
theorem d_Ma_visibleCell_33 : decode b_Ma_visibleCell 33 = .ok (.ifCond .eq 11, 3) := by decide +kernel
theorem d_Ma_visibleCell_36 : decode b_Ma_visibleCell 36 = .ok (.aload_n 0, 1) := by decide +kernel
theorem d_Ma_visibleCell_37 : decode b_Ma_visibleCell 37 = .ok (.iload_n 1, 1) := by decide +kernel
theorem d_Ma_visibleCell_38 : decode b_Ma_visibleCell 38 = .ok (.invokevirtual 46, 3) := by decide +kernel
theorem d_Ma_visibleCell_41 : decode b_Ma_visibleCell 41 = .ok (.goto 4, 3) := by decide +kernel
theorem d_Ma_visibleCell_44 : decode b_Ma_visibleCell 44 = .ok (.iconst 0, 1) := by decide +kernel
theorem d_Ma_visibleCell_45 : decode b_Ma_visibleCell 45 = .ok (.ireturn, 1) := by decide +kernel

set_option maxHeartbeats 4000000 in
set_option maxRecDepth 100000 in
theorem c_Ma_visibleCell (l : Launch) (G : nn_G) (sz : Nat) (h0 x1 x2 : Nat) (k : Int32) : Met l y_Ma_visibleCell w_Ma_visibleCell ({ frames := 1, cells := 0, slots := 0, locals := 21 }) (nn_P G [.ref h0, .int k] [(h0, .inr (3, [.ref x1, .ref x2, .int 0, .int 0, .int 0, .int (-1), .int 0, .int 0])), (x1, .inl (G.2 0, 200, .inl (fun _ => 0)))] sz) (vp_Si (fun r => r = 0)) 0 0 (fun _ => False) := by
  refine Met.ofW (cc := b_Ma_visibleCell) (maxL := 3) (ret := some .int) (by decide) rfl ?_
  intro p e s m args below meth c s₁ B hml hv
  obtain ⟨rfl, hsz, hP, hK, hD0, hN⟩ := hv
  have hx := B.exec
  have hb := B.bytes
  have hr := B.returns
  have hts := atoms_spec (ws := w_Ma_visibleCell) B.pre
  have hg : ∀ w ∈ nn_gw, w.before _ s = true := fun w h => hts w (List.mem_cons_of_mem _ h)
  have hown : s.vm.findClass R_Ma = some m.cls := findClass_of_methodNamed B.named
  have hlocks := B.notSynchronized
  subst hsz
  have hD := hD0
  generalize hAe : (fun _ : Nat => True) = A at hD
  have hA : ∀ q : Nat, s.heap.size ≤ q → A q := fun q h => by rw [← hAe]; trivial
  have hS : va_S A s.heap s.heap [] := va_S.rf
  have hP : va_P G.1 nn_cls [(h0, .inr (3, [.ref x1, .ref x2, .int 0, .int 0, .int 0, .int (-1), .int 0, .int 0])), (x1, .inl (G.2 0, 200, .inl (fun _ => 0)))] s.heap := hP
  have hl := lv_entry ([.ref h0, .int k]) (n := 3) (Nat.le_of_ble_eq_true rfl)
  rw [lg_entry_eq]
  generalize (lg_sl ([.ref h0, .int k]) ++ List.replicate (3 - (lg_sl ([.ref h0, .int k])).length) Slot.unset).toArray = ls at hl ⊢
  have hl : lv_has ls 3 [(0, .ref h0), (1, .int k)] := hl
  refine lv_iload_n hx hb d_Ma_visibleCell_0 rfl (lv_at hl 1 rfl) ?_
  refine lv_aload_n hx hb d_Ma_visibleCell_1 rfl (lv_at hl 0 rfl) ?_
  refine va_get (D := G.1) (ci := 3) (v := .int 0) (C := R_Ma) (T := T_Ma) (N := 8) hx hb hg in_Ma hown hK hP 0 rfl rfl 4 (by decide) (hg _ mw_250) (fun _ h9 => h9) rfl d_Ma_visibleCell_2 ?_
  refine lv_icmp_lt (tgt := 22) hx hb d_Ma_visibleCell_5 rfl (fun hc5 => ?_) (fun hc5 => ?_)
  · skip
    refine lv_iconst (v := 0) hx hb d_Ma_visibleCell_22 (by decide) ?_
    refine lv_istore_n (lv' := [(2, .int 0), (0, .ref h0), (1, .int k)]) hx hb d_Ma_visibleCell_23 rfl hl (by decide) rfl (fun ls hl => ?_)
    refine lv_iload_n hx hb d_Ma_visibleCell_24 rfl (lv_at hl 2 rfl) ?_
    refine lv_aload_n hx hb d_Ma_visibleCell_25 rfl (lv_at hl 1 rfl) ?_
    refine va_get (D := G.1) (ci := 3) (v := .int (-1)) (C := R_Ma) (T := T_Ma) (N := 8) hx hb hg in_Ma hown hK hP 0 rfl rfl 5 (by decide) (hg _ mw_251) (fun _ h9 => h9) rfl d_Ma_visibleCell_26 ?_
    refine lv_icmp_le (tgt := 36) hx hb d_Ma_visibleCell_29 rfl (fun hc29 => ?_) (fun hc29 => ?_)
    · skip
      refine lv_aload_n hx hb d_Ma_visibleCell_36 rfl (lv_at hl 1 rfl) ?_
      refine lv_iload_n hx hb d_Ma_visibleCell_37 rfl (lv_at hl 2 rfl) ?_
      have hPc := hP.sub (ws' := [(h0, .inr (3, [.ref x1, .ref x2, .int 0, .int 0, .int 0, .int (-1), .int 0, .int 0])), (x1, .inl (G.2 0, 200, .inl (fun _ => 0)))]) [0, 1] rfl
      have hDc := hD.sub (ws' := [(h0, .inr (3, [.ref x1, .ref x2, .int 0, .int 0, .int 0, .int (-1), .int 0, .int 0])), (x1, .inl (G.2 0, 200, .inl (fun _ => 0)))]) [0, 1] (by decide) rfl
      refine vp_callSi (va_Run.run (va_runV (As := [.int k]) (rest := []) ⟨hx, hb, hml, hown, hts⟩ (c_Ma_at l G _ h0 x1 x2 k) (cwV 1 hts (nn_gV mw_368 mw_365 mw_367 mw_2 mw_93) rfl rfl rfl (by decide +kernel) ⟨Nat.le_of_ble_eq_true rfl, Nat.le_of_ble_eq_true rfl⟩) (nn_preV (va_recv hK hP rfl (q0 := 0) rfl) hPc hDc hK hN) rfl rfl hl.1 rfl (lv_room (Nat.le_of_ble_eq_true rfl)) d_Ma_visibleCell_38 ⟨(Nat.le_of_ble_eq_true rfl), (Nat.le_of_ble_eq_true rfl)⟩)) (fun r1 er1 => ?_)
      subst er1
      refine lv_goto (tgt := 45) hx hb d_Ma_visibleCell_41 rfl ?_
      exact W.iret (v := 0) hx hb hr (fun t ht hW => ⟨0, rfl, rfl, ht⟩) (fun q h => by cases h) d_Ma_visibleCell_45
    · skip
      refine lv_iload_n hx hb d_Ma_visibleCell_32 rfl (lv_at hl 0 rfl) ?_
      refine lv_if_eq (tgt := 44) hx hb d_Ma_visibleCell_33 rfl (fun _ => ?_) (fun h => absurd (by decide) h)
      refine lv_iconst (v := 0) hx hb d_Ma_visibleCell_44 (by decide) ?_
      exact W.iret (v := 0) hx hb hr (fun t ht hW => ⟨0, rfl, rfl, ht⟩) (fun q h => by cases h) d_Ma_visibleCell_45
  · skip
    refine lv_iload_n hx hb d_Ma_visibleCell_8 rfl (lv_at hl 1 rfl) ?_
    refine lv_aload_n hx hb d_Ma_visibleCell_9 rfl (lv_at hl 0 rfl) ?_
    refine va_get (D := G.1) (ci := 3) (v := .int 0) (C := R_Ma) (T := T_Ma) (N := 8) hx hb hg in_Ma hown hK hP 0 rfl rfl 4 (by decide) (hg _ mw_250) (fun _ h9 => h9) rfl d_Ma_visibleCell_10 ?_
    refine lv_iconst (v := 3) hx hb d_Ma_visibleCell_13 (by decide) ?_
    refine lv_iadd hx hb d_Ma_visibleCell_14 ?_
    refine nb_top 3 (by decide) ?_
    refine lv_icmp_ge (tgt := 22) hx hb d_Ma_visibleCell_15 rfl (fun hc15 => ?_) (fun hc15 => ?_)
    · skip
      refine lv_iconst (v := 0) hx hb d_Ma_visibleCell_22 (by decide) ?_
      refine lv_istore_n (lv' := [(2, .int 0), (0, .ref h0), (1, .int k)]) hx hb d_Ma_visibleCell_23 rfl hl (by decide) rfl (fun ls hl => ?_)
      refine lv_iload_n hx hb d_Ma_visibleCell_24 rfl (lv_at hl 2 rfl) ?_
      refine lv_aload_n hx hb d_Ma_visibleCell_25 rfl (lv_at hl 1 rfl) ?_
      refine va_get (D := G.1) (ci := 3) (v := .int (-1)) (C := R_Ma) (T := T_Ma) (N := 8) hx hb hg in_Ma hown hK hP 0 rfl rfl 5 (by decide) (hg _ mw_251) (fun _ h9 => h9) rfl d_Ma_visibleCell_26 ?_
      refine lv_icmp_le (tgt := 36) hx hb d_Ma_visibleCell_29 rfl (fun hc29 => ?_) (fun hc29 => ?_)
      · skip
        refine lv_aload_n hx hb d_Ma_visibleCell_36 rfl (lv_at hl 1 rfl) ?_
        refine lv_iload_n hx hb d_Ma_visibleCell_37 rfl (lv_at hl 2 rfl) ?_
        have hPc := hP.sub (ws' := [(h0, .inr (3, [.ref x1, .ref x2, .int 0, .int 0, .int 0, .int (-1), .int 0, .int 0])), (x1, .inl (G.2 0, 200, .inl (fun _ => 0)))]) [0, 1] rfl
        have hDc := hD.sub (ws' := [(h0, .inr (3, [.ref x1, .ref x2, .int 0, .int 0, .int 0, .int (-1), .int 0, .int 0])), (x1, .inl (G.2 0, 200, .inl (fun _ => 0)))]) [0, 1] (by decide) rfl
        refine vp_callSi (va_Run.run (va_runV (As := [.int k]) (rest := []) ⟨hx, hb, hml, hown, hts⟩ (c_Ma_at l G _ h0 x1 x2 k) (cwV 1 hts (nn_gV mw_368 mw_365 mw_367 mw_2 mw_93) rfl rfl rfl (by decide +kernel) ⟨Nat.le_of_ble_eq_true rfl, Nat.le_of_ble_eq_true rfl⟩) (nn_preV (va_recv hK hP rfl (q0 := 0) rfl) hPc hDc hK hN) rfl rfl hl.1 rfl (lv_room (Nat.le_of_ble_eq_true rfl)) d_Ma_visibleCell_38 ⟨(Nat.le_of_ble_eq_true rfl), (Nat.le_of_ble_eq_true rfl)⟩)) (fun r2 er2 => ?_)
        subst er2
        refine lv_goto (tgt := 45) hx hb d_Ma_visibleCell_41 rfl ?_
        exact W.iret (v := 0) hx hb hr (fun t ht hW => ⟨0, rfl, rfl, ht⟩) (fun q h => by cases h) d_Ma_visibleCell_45
      · skip
        refine lv_iload_n hx hb d_Ma_visibleCell_32 rfl (lv_at hl 0 rfl) ?_
        refine lv_if_eq (tgt := 44) hx hb d_Ma_visibleCell_33 rfl (fun _ => ?_) (fun h => absurd (by decide) h)
        refine lv_iconst (v := 0) hx hb d_Ma_visibleCell_44 (by decide) ?_
        exact W.iret (v := 0) hx hb hr (fun t ht hW => ⟨0, rfl, rfl, ht⟩) (fun q h => by cases h) d_Ma_visibleCell_45
    · skip
      refine lv_iconst (v := 1) hx hb d_Ma_visibleCell_18 (by decide) ?_
      refine lv_goto (tgt := 23) hx hb d_Ma_visibleCell_19 rfl ?_
      refine lv_istore_n (lv' := [(2, .int 1), (0, .ref h0), (1, .int k)]) hx hb d_Ma_visibleCell_23 rfl hl (by decide) rfl (fun ls hl => ?_)
      refine lv_iload_n hx hb d_Ma_visibleCell_24 rfl (lv_at hl 2 rfl) ?_
      refine lv_aload_n hx hb d_Ma_visibleCell_25 rfl (lv_at hl 1 rfl) ?_
      refine va_get (D := G.1) (ci := 3) (v := .int (-1)) (C := R_Ma) (T := T_Ma) (N := 8) hx hb hg in_Ma hown hK hP 0 rfl rfl 5 (by decide) (hg _ mw_251) (fun _ h9 => h9) rfl d_Ma_visibleCell_26 ?_
      refine lv_icmp_le (tgt := 36) hx hb d_Ma_visibleCell_29 rfl (fun hc29 => ?_) (fun hc29 => ?_)
      · skip
        refine lv_aload_n hx hb d_Ma_visibleCell_36 rfl (lv_at hl 1 rfl) ?_
        refine lv_iload_n hx hb d_Ma_visibleCell_37 rfl (lv_at hl 2 rfl) ?_
        have hPc := hP.sub (ws' := [(h0, .inr (3, [.ref x1, .ref x2, .int 0, .int 0, .int 0, .int (-1), .int 0, .int 0])), (x1, .inl (G.2 0, 200, .inl (fun _ => 0)))]) [0, 1] rfl
        have hDc := hD.sub (ws' := [(h0, .inr (3, [.ref x1, .ref x2, .int 0, .int 0, .int 0, .int (-1), .int 0, .int 0])), (x1, .inl (G.2 0, 200, .inl (fun _ => 0)))]) [0, 1] (by decide) rfl
        refine vp_callSi (va_Run.run (va_runV (As := [.int k]) (rest := []) ⟨hx, hb, hml, hown, hts⟩ (c_Ma_at l G _ h0 x1 x2 k) (cwV 1 hts (nn_gV mw_368 mw_365 mw_367 mw_2 mw_93) rfl rfl rfl (by decide +kernel) ⟨Nat.le_of_ble_eq_true rfl, Nat.le_of_ble_eq_true rfl⟩) (nn_preV (va_recv hK hP rfl (q0 := 0) rfl) hPc hDc hK hN) rfl rfl hl.1 rfl (lv_room (Nat.le_of_ble_eq_true rfl)) d_Ma_visibleCell_38 ⟨(Nat.le_of_ble_eq_true rfl), (Nat.le_of_ble_eq_true rfl)⟩)) (fun r3 er3 => ?_)
        subst er3
        refine lv_goto (tgt := 45) hx hb d_Ma_visibleCell_41 rfl ?_
        exact W.iret (v := 0) hx hb hr (fun t ht hW => ⟨0, rfl, rfl, ht⟩) (fun q h => by cases h) d_Ma_visibleCell_45
      · skip
        refine lv_iload_n hx hb d_Ma_visibleCell_32 rfl (lv_at hl 0 rfl) ?_
        refine lv_if_eq (tgt := 44) hx hb d_Ma_visibleCell_33 rfl (fun h => absurd h (by decide)) (fun _ => ?_)
        refine lv_aload_n hx hb d_Ma_visibleCell_36 rfl (lv_at hl 1 rfl) ?_
        refine lv_iload_n hx hb d_Ma_visibleCell_37 rfl (lv_at hl 2 rfl) ?_
        have hPc := hP.sub (ws' := [(h0, .inr (3, [.ref x1, .ref x2, .int 0, .int 0, .int 0, .int (-1), .int 0, .int 0])), (x1, .inl (G.2 0, 200, .inl (fun _ => 0)))]) [0, 1] rfl
        have hDc := hD.sub (ws' := [(h0, .inr (3, [.ref x1, .ref x2, .int 0, .int 0, .int 0, .int (-1), .int 0, .int 0])), (x1, .inl (G.2 0, 200, .inl (fun _ => 0)))]) [0, 1] (by decide) rfl
        refine vp_callSi (va_Run.run (va_runV (As := [.int k]) (rest := []) ⟨hx, hb, hml, hown, hts⟩ (c_Ma_at l G _ h0 x1 x2 k) (cwV 1 hts (nn_gV mw_368 mw_365 mw_367 mw_2 mw_93) rfl rfl rfl (by decide +kernel) ⟨Nat.le_of_ble_eq_true rfl, Nat.le_of_ble_eq_true rfl⟩) (nn_preV (va_recv hK hP rfl (q0 := 0) rfl) hPc hDc hK hN) rfl rfl hl.1 rfl (lv_room (Nat.le_of_ble_eq_true rfl)) d_Ma_visibleCell_38 ⟨(Nat.le_of_ble_eq_true rfl), (Nat.le_of_ble_eq_true rfl)⟩)) (fun r4 er4 => ?_)
        subst er4
        refine lv_goto (tgt := 45) hx hb d_Ma_visibleCell_41 rfl ?_
        exact W.iret (v := 0) hx hb hr (fun t ht hW => ⟨0, rfl, rfl, ht⟩) (fun q h => by cases h) d_Ma_visibleCell_45

theorem d_Ma_output_0 : decode b_Ma_output 0 = .ok (.iload_n 1, 1) := by decide +kernel
theorem d_Ma_output_1 : decode b_Ma_output 1 = .ok (.ifCond .lt 17, 3) := by decide +kernel
theorem d_Ma_output_4 : decode b_Ma_output 4 = .ok (.iload_n 1, 1) := by decide +kernel
theorem d_Ma_output_5 : decode b_Ma_output 5 = .ok (.bipush 8, 2) := by decide +kernel
theorem d_Ma_output_7 : decode b_Ma_output 7 = .ok (.if_icmp .ge 11, 3) := by decide +kernel
theorem d_Ma_output_10 : decode b_Ma_output 10 = .ok (.iload_n 1, 1) := by decide +kernel
theorem d_Ma_output_11 : decode b_Ma_output 11 = .ok (.aload_n 0, 1) := by decide +kernel
theorem d_Ma_output_12 : decode b_Ma_output 12 = .ok (.getfield 34, 3) := by decide +kernel
theorem d_Ma_output_15 : decode b_Ma_output 15 = .ok (.if_icmp .lt 5, 3) := by decide +kernel
theorem d_Ma_output_18 : decode b_Ma_output 18 = .ok (.iconst 0, 1) := by decide +kernel
theorem d_Ma_output_19 : decode b_Ma_output 19 = .ok (.ireturn, 1) := by decide +kernel

set_option maxHeartbeats 4000000 in
set_option maxRecDepth 100000 in
theorem c_Ma_output (l : Launch) (G : nn_G) (sz : Nat) (h0 x1 x2 : Nat) (k : Int32) : Met l y_Ma_output w_Ma_output ({ frames := 0, cells := 0, slots := 0, locals := 0 }) (nn_P G [.ref h0, .int k] [(h0, .inr (3, [.ref x1, .ref x2, .int 0, .int 0, .int 0, .int (-1), .int 0, .int 0]))] sz) (vp_Si (fun r => r = 0)) 0 0 (fun _ => False) := by
  refine Met.ofW (cc := b_Ma_output) (maxL := 2) (ret := some .int) (by decide) rfl ?_
  intro p e s m args below meth c s₁ B hml hv
  obtain ⟨rfl, hsz, hP, hK, hD0, hN⟩ := hv
  have hx := B.exec
  have hb := B.bytes
  have hr := B.returns
  have hts := atoms_spec (ws := w_Ma_output) B.pre
  have hg : ∀ w ∈ nn_gw, w.before _ s = true := fun w h => hts w (List.mem_cons_of_mem _ h)
  have hown : s.vm.findClass R_Ma = some m.cls := findClass_of_methodNamed B.named
  have hlocks := B.notSynchronized
  subst hsz
  have hD := hD0
  generalize hAe : (fun _ : Nat => True) = A at hD
  have hA : ∀ q : Nat, s.heap.size ≤ q → A q := fun q h => by rw [← hAe]; trivial
  have hS : va_S A s.heap s.heap [] := va_S.rf
  have hP : va_P G.1 nn_cls [(h0, .inr (3, [.ref x1, .ref x2, .int 0, .int 0, .int 0, .int (-1), .int 0, .int 0]))] s.heap := hP
  have hl := lv_entry ([.ref h0, .int k]) (n := 2) (Nat.le_of_ble_eq_true rfl)
  rw [lg_entry_eq]
  generalize (lg_sl ([.ref h0, .int k]) ++ List.replicate (2 - (lg_sl ([.ref h0, .int k])).length) Slot.unset).toArray = ls at hl ⊢
  have hl : lv_has ls 2 [(0, .ref h0), (1, .int k)] := hl
  refine lv_iload_n hx hb d_Ma_output_0 rfl (lv_at hl 1 rfl) ?_
  refine lv_if_lt (tgt := 18) hx hb d_Ma_output_1 rfl (fun hc1 => ?_) (fun hc1 => ?_)
  · skip
    refine lv_iconst (v := 0) hx hb d_Ma_output_18 (by decide) ?_
    exact W.iret (v := 0) hx hb hr (fun t ht hW => ⟨0, rfl, rfl, ht⟩) (fun q h => by cases h) d_Ma_output_19
  · skip
    refine lv_iload_n hx hb d_Ma_output_4 rfl (lv_at hl 1 rfl) ?_
    refine lv_bipush (v := 8) hx hb d_Ma_output_5 (by decide) ?_
    refine lv_icmp_ge (tgt := 18) hx hb d_Ma_output_7 rfl (fun hc7 => ?_) (fun hc7 => ?_)
    · skip
      refine lv_iconst (v := 0) hx hb d_Ma_output_18 (by decide) ?_
      exact W.iret (v := 0) hx hb hr (fun t ht hW => ⟨0, rfl, rfl, ht⟩) (fun q h => by cases h) d_Ma_output_19
    · skip
      refine lv_iload_n hx hb d_Ma_output_10 rfl (lv_at hl 1 rfl) ?_
      refine lv_aload_n hx hb d_Ma_output_11 rfl (lv_at hl 0 rfl) ?_
      refine va_get (D := G.1) (ci := 3) (v := .int 0) (C := R_Ma) (T := T_Ma) (N := 8) hx hb hg in_Ma hown hK hP 0 rfl rfl 7 (by decide) (hg _ mw_253) (fun _ h9 => h9) rfl d_Ma_output_12 ?_
      refine lv_icmp_lt (tgt := 20) hx hb d_Ma_output_15 rfl (fun h => absurd h (hc1)) (fun _ => ?_)
      refine lv_iconst (v := 0) hx hb d_Ma_output_18 (by decide) ?_
      exact W.iret (v := 0) hx hb hr (fun t ht hW => ⟨0, rfl, rfl, ht⟩) (fun q h => by cases h) d_Ma_output_19

theorem d_Ma_found_0 : decode b_Ma_found 0 = .ok (.aload_n 0, 1) := by decide +kernel
theorem d_Ma_found_1 : decode b_Ma_found 1 = .ok (.getfield 18, 3) := by decide +kernel
theorem d_Ma_found_4 : decode b_Ma_found 4 = .ok (.iconst 1, 1) := by decide +kernel
theorem d_Ma_found_5 : decode b_Ma_found 5 = .ok (.if_icmp .ne 7, 3) := by decide +kernel
theorem d_Ma_found_12 : decode b_Ma_found 12 = .ok (.iconst 0, 1) := by decide +kernel
theorem d_Ma_found_13 : decode b_Ma_found 13 = .ok (.ireturn, 1) := by decide +kernel

set_option maxHeartbeats 4000000 in
set_option maxRecDepth 100000 in
theorem c_Ma_found (l : Launch) (G : nn_G) (sz : Nat) (h0 x1 x2 : Nat) (i j : Int32) : Met l y_Ma_found w_Ma_found ({ frames := 0, cells := 0, slots := 0, locals := 0 }) (nn_P G [.ref h0, .int i, .int j] [(h0, .inr (3, [.ref x1, .ref x2, .int 0, .int 0, .int 0, .int (-1), .int 0, .int 0]))] sz) (vp_Si (fun r => r = 0)) 0 0 (fun _ => False) := by
  refine Met.ofW (cc := b_Ma_found) (maxL := 5) (ret := some .int) (by decide) rfl ?_
  intro p e s m args below meth c s₁ B hml hv
  obtain ⟨rfl, hsz, hP, hK, hD0, hN⟩ := hv
  have hx := B.exec
  have hb := B.bytes
  have hr := B.returns
  have hts := atoms_spec (ws := w_Ma_found) B.pre
  have hg : ∀ w ∈ nn_gw, w.before _ s = true := fun w h => hts w (List.mem_cons_of_mem _ h)
  have hown : s.vm.findClass R_Ma = some m.cls := findClass_of_methodNamed B.named
  have hlocks := B.notSynchronized
  subst hsz
  have hD := hD0
  generalize hAe : (fun _ : Nat => True) = A at hD
  have hA : ∀ q : Nat, s.heap.size ≤ q → A q := fun q h => by rw [← hAe]; trivial
  have hS : va_S A s.heap s.heap [] := va_S.rf
  have hP : va_P G.1 nn_cls [(h0, .inr (3, [.ref x1, .ref x2, .int 0, .int 0, .int 0, .int (-1), .int 0, .int 0]))] s.heap := hP
  have hl := lv_entry ([.ref h0, .int i, .int j]) (n := 5) (Nat.le_of_ble_eq_true rfl)
  rw [lg_entry_eq]
  generalize (lg_sl ([.ref h0, .int i, .int j]) ++ List.replicate (5 - (lg_sl ([.ref h0, .int i, .int j])).length) Slot.unset).toArray = ls at hl ⊢
  have hl : lv_has ls 5 [(0, .ref h0), (1, .int i), (2, .int j)] := hl
  refine lv_aload_n hx hb d_Ma_found_0 rfl (lv_at hl 0 rfl) ?_
  refine va_get (D := G.1) (ci := 3) (v := .int 0) (C := R_Ma) (T := T_Ma) (N := 8) hx hb hg in_Ma hown hK hP 0 rfl rfl 2 (by decide) (hg _ mw_248) (fun _ h9 => h9) rfl d_Ma_found_1 ?_
  refine lv_iconst (v := 1) hx hb d_Ma_found_4 (by decide) ?_
  refine lv_icmp_ne (tgt := 12) hx hb d_Ma_found_5 rfl (fun _ => ?_) (fun h => absurd h (by decide))
  refine lv_iconst (v := 0) hx hb d_Ma_found_12 (by decide) ?_
  exact W.iret (v := 0) hx hb hr (fun t ht hW => ⟨0, rfl, rfl, ht⟩) (fun q h => by cases h) d_Ma_found_13

theorem d_Cm_fault_0 : decode b_Cm_fault 0 = .ok (.aload_n 0, 1) := by decide +kernel
theorem d_Cm_fault_1 : decode b_Cm_fault 1 = .ok (.getfield 36, 3) := by decide +kernel
theorem d_Cm_fault_4 : decode b_Cm_fault 4 = .ok (.ireturn, 1) := by decide +kernel

set_option maxHeartbeats 4000000 in
set_option maxRecDepth 100000 in
theorem c_Cm_fault (l : Launch) (G : nn_G) (sz : Nat) (h0 x1 x2 x3 : Nat) : Met l y_Cm_fault w_Cm_fault ({ frames := 0, cells := 0, slots := 0, locals := 0 }) (nn_P G [.ref h0] [(h0, .inr (2, [.ref x1, .ref x2, .ref x3, .int 0, .int (-1), .int (-1)]))] sz) (vp_Si (fun r => r = -1)) 0 0 (fun _ => False) := by
  refine Met.ofW (cc := b_Cm_fault) (maxL := 1) (ret := some .int) (by decide) rfl ?_
  intro p e s m args below meth c s₁ B hml hv
  obtain ⟨rfl, hsz, hP, hK, hD0, hN⟩ := hv
  have hx := B.exec
  have hb := B.bytes
  have hr := B.returns
  have hts := atoms_spec (ws := w_Cm_fault) B.pre
  have hg : ∀ w ∈ nn_gw, w.before _ s = true := fun w h => hts w (List.mem_cons_of_mem _ h)
  have hown : s.vm.findClass R_Cm = some m.cls := findClass_of_methodNamed B.named
  have hlocks := B.notSynchronized
  subst hsz
  have hD := hD0
  generalize hAe : (fun _ : Nat => True) = A at hD
  have hA : ∀ q : Nat, s.heap.size ≤ q → A q := fun q h => by rw [← hAe]; trivial
  have hS : va_S A s.heap s.heap [] := va_S.rf
  have hP : va_P G.1 nn_cls [(h0, .inr (2, [.ref x1, .ref x2, .ref x3, .int 0, .int (-1), .int (-1)]))] s.heap := hP
  have hl := lv_entry ([.ref h0]) (n := 1) (Nat.le_of_ble_eq_true rfl)
  rw [lg_entry_eq]
  generalize (lg_sl ([.ref h0]) ++ List.replicate (1 - (lg_sl ([.ref h0])).length) Slot.unset).toArray = ls at hl ⊢
  have hl : lv_has ls 1 [(0, .ref h0)] := hl
  refine lv_aload_n hx hb d_Cm_fault_0 rfl (lv_at hl 0 rfl) ?_
  refine va_get (D := G.1) (ci := 2) (v := .int (-1)) (C := R_Cm) (T := T_Cm) (N := 6) hx hb hg in_Cm hown hK hP 0 rfl rfl 4 (by decide) (hg _ mw_223) (fun _ h9 => h9) rfl d_Cm_fault_1 ?_
  exact W.iret (v := (-1)) hx hb hr (fun t ht hW => ⟨(-1), rfl, rfl, ht⟩) (fun q h => by cases h) d_Cm_fault_4

theorem d_Cm_faultPlace_0 : decode b_Cm_faultPlace 0 = .ok (.aload_n 0, 1) := by decide +kernel
theorem d_Cm_faultPlace_1 : decode b_Cm_faultPlace 1 = .ok (.getfield 39, 3) := by decide +kernel
theorem d_Cm_faultPlace_4 : decode b_Cm_faultPlace 4 = .ok (.ireturn, 1) := by decide +kernel

set_option maxHeartbeats 4000000 in
set_option maxRecDepth 100000 in
theorem c_Cm_faultPlace (l : Launch) (G : nn_G) (sz : Nat) (h0 x1 x2 x3 : Nat) : Met l y_Cm_faultPlace w_Cm_faultPlace ({ frames := 0, cells := 0, slots := 0, locals := 0 }) (nn_P G [.ref h0] [(h0, .inr (2, [.ref x1, .ref x2, .ref x3, .int 0, .int (-1), .int (-1)]))] sz) (vp_Si (fun r => r = -1)) 0 0 (fun _ => False) := by
  refine Met.ofW (cc := b_Cm_faultPlace) (maxL := 1) (ret := some .int) (by decide) rfl ?_
  intro p e s m args below meth c s₁ B hml hv
  obtain ⟨rfl, hsz, hP, hK, hD0, hN⟩ := hv
  have hx := B.exec
  have hb := B.bytes
  have hr := B.returns
  have hts := atoms_spec (ws := w_Cm_faultPlace) B.pre
  have hg : ∀ w ∈ nn_gw, w.before _ s = true := fun w h => hts w (List.mem_cons_of_mem _ h)
  have hown : s.vm.findClass R_Cm = some m.cls := findClass_of_methodNamed B.named
  have hlocks := B.notSynchronized
  subst hsz
  have hD := hD0
  generalize hAe : (fun _ : Nat => True) = A at hD
  have hA : ∀ q : Nat, s.heap.size ≤ q → A q := fun q h => by rw [← hAe]; trivial
  have hS : va_S A s.heap s.heap [] := va_S.rf
  have hP : va_P G.1 nn_cls [(h0, .inr (2, [.ref x1, .ref x2, .ref x3, .int 0, .int (-1), .int (-1)]))] s.heap := hP
  have hl := lv_entry ([.ref h0]) (n := 1) (Nat.le_of_ble_eq_true rfl)
  rw [lg_entry_eq]
  generalize (lg_sl ([.ref h0]) ++ List.replicate (1 - (lg_sl ([.ref h0])).length) Slot.unset).toArray = ls at hl ⊢
  have hl : lv_has ls 1 [(0, .ref h0)] := hl
  refine lv_aload_n hx hb d_Cm_faultPlace_0 rfl (lv_at hl 0 rfl) ?_
  refine va_get (D := G.1) (ci := 2) (v := .int (-1)) (C := R_Cm) (T := T_Cm) (N := 6) hx hb hg in_Cm hown hK hP 0 rfl rfl 5 (by decide) (hg _ mw_224) (fun _ h9 => h9) rfl d_Cm_faultPlace_1 ?_
  exact W.iret (v := (-1)) hx hb hr (fun t ht hW => ⟨(-1), rfl, rfl, ht⟩) (fun q h => by cases h) d_Cm_faultPlace_4

theorem mw_302 : (.methodLink R_NP 65 y_Cm_fault : Cond) ∈ nn_gw := nn_at 302 (by decide +kernel) (by decide +kernel)
theorem mw_303 : (.instanceMethod y_Cm_fault : Cond) ∈ nn_gw := nn_at 303 (by decide +kernel) (by decide +kernel)
theorem mw_304 : (.selects R_Cm y_Cm_fault y_Cm_fault : Cond) ∈ nn_gw := nn_at 304 (by decide +kernel) (by decide +kernel)
theorem mw_305 : (.code y_Cm_fault b_Cm_fault 1 (some .int) : Cond) ∈ nn_gw := nn_at 305 (by decide +kernel) (by decide +kernel)
theorem mw_306 : (.methodLink R_NP 68 y_Cm_faultPlace : Cond) ∈ nn_gw := nn_at 306 (by decide +kernel) (by decide +kernel)
theorem mw_307 : (.instanceMethod y_Cm_faultPlace : Cond) ∈ nn_gw := nn_at 307 (by decide +kernel) (by decide +kernel)
theorem mw_308 : (.selects R_Cm y_Cm_faultPlace y_Cm_faultPlace : Cond) ∈ nn_gw := nn_at 308 (by decide +kernel) (by decide +kernel)
theorem mw_309 : (.code y_Cm_faultPlace b_Cm_faultPlace 1 (some .int) : Cond) ∈ nn_gw := nn_at 309 (by decide +kernel) (by decide +kernel)
theorem d_NP_error_0 : decode b_NP_error 0 = .ok (.iload_n 1, 1) := by decide +kernel
theorem d_NP_error_1 : decode b_NP_error 1 = .ok (.lookupswitch 43 #[(0, 27), (1, 35)], 27) := by decide +kernel
theorem d_NP_error_28 : decode b_NP_error 28 = .ok (.aload_n 0, 1) := by decide +kernel
theorem d_NP_error_29 : decode b_NP_error 29 = .ok (.getfield 20, 3) := by decide +kernel
theorem d_NP_error_32 : decode b_NP_error 32 = .ok (.invokevirtual 65, 3) := by decide +kernel
theorem d_NP_error_35 : decode b_NP_error 35 = .ok (.ireturn, 1) := by decide +kernel
theorem d_NP_error_36 : decode b_NP_error 36 = .ok (.aload_n 0, 1) := by decide +kernel
theorem d_NP_error_37 : decode b_NP_error 37 = .ok (.getfield 20, 3) := by decide +kernel
theorem d_NP_error_40 : decode b_NP_error 40 = .ok (.invokevirtual 68, 3) := by decide +kernel
theorem d_NP_error_43 : decode b_NP_error 43 = .ok (.ireturn, 1) := by decide +kernel
theorem d_NP_error_44 : decode b_NP_error 44 = .ok (.iconst (-1), 1) := by decide +kernel
theorem d_NP_error_45 : decode b_NP_error 45 = .ok (.ireturn, 1) := by decide +kernel

set_option maxHeartbeats 4000000 in
set_option maxRecDepth 100000 in
theorem c_NP_error (l : Launch) (G : nn_G) (sz : Nat) (h0 y1 y2 y3 y4 : Nat) (x1 x2 x3 : Nat) (k : Int32) : Met l y_NP_error w_NP_error ({ frames := 1, cells := 0, slots := 0, locals := 20 }) (nn_P G [.ref h0, .int k] [(h0, .inr (0, [.ref y1, .int 0, .ref y2, .ref y3, .ref y4])), (y2, .inr (2, [.ref x1, .ref x2, .ref x3, .int 0, .int (-1), .int (-1)]))] sz) (vp_Si (fun r => r = -1)) 0 0 (fun _ => False) := by
  refine Met.ofW (cc := b_NP_error) (maxL := 2) (ret := some .int) (by decide) rfl ?_
  intro p e s m args below meth c s₁ B hml hv
  obtain ⟨rfl, hsz, hP, hK, hD0, hN⟩ := hv
  have hx := B.exec
  have hb := B.bytes
  have hr := B.returns
  have hts := atoms_spec (ws := w_NP_error) B.pre
  have hg : ∀ w ∈ nn_gw, w.before _ s = true := fun w h => hts w (List.mem_cons_of_mem _ h)
  have hown : s.vm.findClass R_NP = some m.cls := findClass_of_methodNamed B.named
  have hlocks := B.notSynchronized
  subst hsz
  have hD := hD0
  generalize hAe : (fun _ : Nat => True) = A at hD
  have hA : ∀ q : Nat, s.heap.size ≤ q → A q := fun q h => by rw [← hAe]; trivial
  have hS : va_S A s.heap s.heap [] := va_S.rf
  have hP : va_P G.1 nn_cls [(h0, .inr (0, [.ref y1, .int 0, .ref y2, .ref y3, .ref y4])), (y2, .inr (2, [.ref x1, .ref x2, .ref x3, .int 0, .int (-1), .int (-1)]))] s.heap := hP
  have hl := lv_entry ([.ref h0, .int k]) (n := 2) (Nat.le_of_ble_eq_true rfl)
  rw [lg_entry_eq]
  generalize (lg_sl ([.ref h0, .int k]) ++ List.replicate (2 - (lg_sl ([.ref h0, .int k])).length) Slot.unset).toArray = ls at hl ⊢
  have hl : lv_has ls 2 [(0, .ref h0), (1, .int k)] := hl
  refine lv_iload_n hx hb d_NP_error_0 rfl (lv_at hl 1 rfl) ?_
  by_cases hk1_0 : k = 0
  · skip
    refine lv_lookup (off := 27) (tgt := 28) hx hb d_NP_error_1 (by decide) (by rw [hk1_0]; decide) rfl ?_
    refine lv_aload_n hx hb d_NP_error_28 rfl (lv_at hl 0 rfl) ?_
    refine va_get (D := G.1) (ci := 0) (v := .ref y2) (C := R_NP) (T := T_NP) (N := 5) hx hb hg in_NP hown hK hP 0 rfl rfl 2 (by decide) (hg _ mw_273) (fun _ h9 => h9) rfl d_NP_error_29 ?_
    have hPc := hP.sub (ws' := [(y2, .inr (2, [.ref x1, .ref x2, .ref x3, .int 0, .int (-1), .int (-1)]))]) [1] rfl
    have hDc := hD.sub (ws' := [(y2, .inr (2, [.ref x1, .ref x2, .ref x3, .int 0, .int (-1), .int (-1)]))]) [1] (by decide) rfl
    refine vp_callSi (va_Run.run (va_runV (As := []) (rest := []) ⟨hx, hb, hml, hown, hts⟩ (c_Cm_fault l G _ y2 x1 x2 x3) (cwV 0 hts (nn_gV mw_305 mw_302 mw_303 mw_304 mw_88) rfl rfl rfl (by decide +kernel) ⟨Nat.le_of_ble_eq_true rfl, Nat.le_of_ble_eq_true rfl⟩) (nn_preV (va_recv hK hP rfl (q0 := 1) rfl) hPc hDc hK hN) rfl rfl hl.1 rfl (lv_room (Nat.le_of_ble_eq_true rfl)) d_NP_error_32 ⟨(Nat.le_of_ble_eq_true rfl), (Nat.le_of_ble_eq_true rfl)⟩)) (fun r1 er1 => ?_)
    subst er1
    exact W.iret (v := (-1)) hx hb hr (fun t ht hW => ⟨(-1), rfl, rfl, ht⟩) (fun q h => by cases h) d_NP_error_35
  by_cases hk1_1 : k = 1
  · skip
    refine lv_lookup (off := 35) (tgt := 36) hx hb d_NP_error_1 (by decide) (by rw [hk1_1]; decide) rfl ?_
    refine lv_aload_n hx hb d_NP_error_36 rfl (lv_at hl 0 rfl) ?_
    refine va_get (D := G.1) (ci := 0) (v := .ref y2) (C := R_NP) (T := T_NP) (N := 5) hx hb hg in_NP hown hK hP 0 rfl rfl 2 (by decide) (hg _ mw_273) (fun _ h9 => h9) rfl d_NP_error_37 ?_
    have hPc := hP.sub (ws' := [(y2, .inr (2, [.ref x1, .ref x2, .ref x3, .int 0, .int (-1), .int (-1)]))]) [1] rfl
    have hDc := hD.sub (ws' := [(y2, .inr (2, [.ref x1, .ref x2, .ref x3, .int 0, .int (-1), .int (-1)]))]) [1] (by decide) rfl
    refine vp_callSi (va_Run.run (va_runV (As := []) (rest := []) ⟨hx, hb, hml, hown, hts⟩ (c_Cm_faultPlace l G _ y2 x1 x2 x3) (cwV 0 hts (nn_gV mw_309 mw_306 mw_307 mw_308 mw_88) rfl rfl rfl (by decide +kernel) ⟨Nat.le_of_ble_eq_true rfl, Nat.le_of_ble_eq_true rfl⟩) (nn_preV (va_recv hK hP rfl (q0 := 1) rfl) hPc hDc hK hN) rfl rfl hl.1 rfl (lv_room (Nat.le_of_ble_eq_true rfl)) d_NP_error_40 ⟨(Nat.le_of_ble_eq_true rfl), (Nat.le_of_ble_eq_true rfl)⟩)) (fun r2 er2 => ?_)
    subst er2
    exact W.iret (v := (-1)) hx hb hr (fun t ht hW => ⟨(-1), rfl, rfl, ht⟩) (fun q h => by cases h) d_NP_error_43
  refine lv_lookup (off := 43) (tgt := 44) hx hb d_NP_error_1 (by decide) (by (show Op.lookupswitch.offset (_ :: _) _ _ = _); rw [lv_osw hk1_0 (by decide)]; (show Op.lookupswitch.offset (_ :: _) _ _ = _); rw [lv_osw hk1_1 (by decide)]; rfl) rfl ?_
  refine lv_iconst (v := (-1)) hx hb d_NP_error_44 (by decide) ?_
  exact W.iret (v := (-1)) hx hb hr (fun t ht hW => ⟨(-1), rfl, rfl, ht⟩) (fun q h => by cases h) d_NP_error_45

theorem mw_314 : (.methodLink R_NP 61 y_Co_size : Cond) ∈ nn_gw := nn_at 314 (by decide +kernel) (by decide +kernel)
theorem mw_315 : (.instanceMethod y_Co_size : Cond) ∈ nn_gw := nn_at 315 (by decide +kernel) (by decide +kernel)
theorem mw_316 : (.selects R_Co y_Co_size y_Co_size : Cond) ∈ nn_gw := nn_at 316 (by decide +kernel) (by decide +kernel)
theorem mw_317 : (.code y_Co_size b_Co_size 1 (some .int) : Cond) ∈ nn_gw := nn_at 317 (by decide +kernel) (by decide +kernel)
theorem mw_318 : (.methodLink R_NP 71 y_Co_operation : Cond) ∈ nn_gw := nn_at 318 (by decide +kernel) (by decide +kernel)
theorem mw_319 : (.instanceMethod y_Co_operation : Cond) ∈ nn_gw := nn_at 319 (by decide +kernel) (by decide +kernel)
theorem mw_320 : (.selects R_Co y_Co_operation y_Co_operation : Cond) ∈ nn_gw := nn_at 320 (by decide +kernel) (by decide +kernel)
theorem mw_321 : (.code y_Co_operation b_Co_operation 2 (some .int) : Cond) ∈ nn_gw := nn_at 321 (by decide +kernel) (by decide +kernel)
theorem mw_326 : (.methodLink R_NP 75 y_Co_links : Cond) ∈ nn_gw := nn_at 326 (by decide +kernel) (by decide +kernel)
theorem mw_327 : (.instanceMethod y_Co_links : Cond) ∈ nn_gw := nn_at 327 (by decide +kernel) (by decide +kernel)
theorem mw_328 : (.selects R_Co y_Co_links y_Co_links : Cond) ∈ nn_gw := nn_at 328 (by decide +kernel) (by decide +kernel)
theorem mw_329 : (.code y_Co_links b_Co_links 2 (some .int) : Cond) ∈ nn_gw := nn_at 329 (by decide +kernel) (by decide +kernel)
theorem mw_330 : (.methodLink R_NP 78 y_Co_operand : Cond) ∈ nn_gw := nn_at 330 (by decide +kernel) (by decide +kernel)
theorem mw_331 : (.instanceMethod y_Co_operand : Cond) ∈ nn_gw := nn_at 331 (by decide +kernel) (by decide +kernel)
theorem mw_332 : (.selects R_Co y_Co_operand y_Co_operand : Cond) ∈ nn_gw := nn_at 332 (by decide +kernel) (by decide +kernel)
theorem mw_333 : (.code y_Co_operand b_Co_operand 2 (some .int) : Cond) ∈ nn_gw := nn_at 333 (by decide +kernel) (by decide +kernel)
theorem d_NP_code_0 : decode b_NP_code 0 = .ok (.iload_n 1, 1) := by decide +kernel
theorem d_NP_code_1 : decode b_NP_code 1 = .ok (.iconst (-1), 1) := by decide +kernel
theorem d_NP_code_2 : decode b_NP_code 2 = .ok (.if_icmp .ne 11, 3) := by decide +kernel
theorem d_NP_code_5 : decode b_NP_code 5 = .ok (.aload_n 0, 1) := by decide +kernel
theorem d_NP_code_6 : decode b_NP_code 6 = .ok (.getfield 27, 3) := by decide +kernel
theorem d_NP_code_9 : decode b_NP_code 9 = .ok (.invokevirtual 61, 3) := by decide +kernel
theorem d_NP_code_12 : decode b_NP_code 12 = .ok (.ireturn, 1) := by decide +kernel
theorem d_NP_code_13 : decode b_NP_code 13 = .ok (.iload_n 2, 1) := by decide +kernel
theorem d_NP_code_14 : decode b_NP_code 14 = .ok (.tableswitch 53 0 2 #[26, 35, 44], 26) := by decide +kernel
theorem d_NP_code_40 : decode b_NP_code 40 = .ok (.aload_n 0, 1) := by decide +kernel
theorem d_NP_code_41 : decode b_NP_code 41 = .ok (.getfield 27, 3) := by decide +kernel
theorem d_NP_code_44 : decode b_NP_code 44 = .ok (.iload_n 1, 1) := by decide +kernel
theorem d_NP_code_45 : decode b_NP_code 45 = .ok (.invokevirtual 71, 3) := by decide +kernel
theorem d_NP_code_48 : decode b_NP_code 48 = .ok (.ireturn, 1) := by decide +kernel
theorem d_NP_code_49 : decode b_NP_code 49 = .ok (.aload_n 0, 1) := by decide +kernel
theorem d_NP_code_50 : decode b_NP_code 50 = .ok (.getfield 27, 3) := by decide +kernel
theorem d_NP_code_53 : decode b_NP_code 53 = .ok (.iload_n 1, 1) := by decide +kernel
theorem d_NP_code_54 : decode b_NP_code 54 = .ok (.invokevirtual 75, 3) := by decide +kernel
theorem d_NP_code_57 : decode b_NP_code 57 = .ok (.ireturn, 1) := by decide +kernel
theorem d_NP_code_58 : decode b_NP_code 58 = .ok (.aload_n 0, 1) := by decide +kernel
theorem d_NP_code_59 : decode b_NP_code 59 = .ok (.getfield 27, 3) := by decide +kernel
theorem d_NP_code_62 : decode b_NP_code 62 = .ok (.iload_n 1, 1) := by decide +kernel
theorem d_NP_code_63 : decode b_NP_code 63 = .ok (.invokevirtual 78, 3) := by decide +kernel
theorem d_NP_code_66 : decode b_NP_code 66 = .ok (.ireturn, 1) := by decide +kernel
theorem d_NP_code_67 : decode b_NP_code 67 = .ok (.iconst 0, 1) := by decide +kernel
theorem d_NP_code_68 : decode b_NP_code 68 = .ok (.ireturn, 1) := by decide +kernel

set_option maxHeartbeats 4000000 in
set_option maxRecDepth 100000 in
theorem c_NP_code (l : Launch) (G : nn_G) (sz : Nat) (h0 y1 y2 y3 y4 : Nat) (x1 x2 x3 : Nat) (k j : Int32) : Met l y_NP_code w_NP_code ({ frames := 2, cells := 0, slots := 0, locals := 42 }) (nn_P G [.ref h0, .int k, .int j] [(h0, .inr (0, [.ref y1, .int 0, .ref y2, .ref y3, .ref y4])), (y3, .inr (1, [.ref x1, .ref x2, .ref x3, .int 0]))] sz) (vp_Si (fun r => r = 0)) 0 0 (fun _ => False) := by
  refine Met.ofW (cc := b_NP_code) (maxL := 3) (ret := some .int) (by decide) rfl ?_
  intro p e s m args below meth c s₁ B hml hv
  obtain ⟨rfl, hsz, hP, hK, hD0, hN⟩ := hv
  have hx := B.exec
  have hb := B.bytes
  have hr := B.returns
  have hts := atoms_spec (ws := w_NP_code) B.pre
  have hg : ∀ w ∈ nn_gw, w.before _ s = true := fun w h => hts w (List.mem_cons_of_mem _ h)
  have hown : s.vm.findClass R_NP = some m.cls := findClass_of_methodNamed B.named
  have hlocks := B.notSynchronized
  subst hsz
  have hD := hD0
  generalize hAe : (fun _ : Nat => True) = A at hD
  have hA : ∀ q : Nat, s.heap.size ≤ q → A q := fun q h => by rw [← hAe]; trivial
  have hS : va_S A s.heap s.heap [] := va_S.rf
  have hP : va_P G.1 nn_cls [(h0, .inr (0, [.ref y1, .int 0, .ref y2, .ref y3, .ref y4])), (y3, .inr (1, [.ref x1, .ref x2, .ref x3, .int 0]))] s.heap := hP
  have hl := lv_entry ([.ref h0, .int k, .int j]) (n := 3) (Nat.le_of_ble_eq_true rfl)
  rw [lg_entry_eq]
  generalize (lg_sl ([.ref h0, .int k, .int j]) ++ List.replicate (3 - (lg_sl ([.ref h0, .int k, .int j])).length) Slot.unset).toArray = ls at hl ⊢
  have hl : lv_has ls 3 [(0, .ref h0), (1, .int k), (2, .int j)] := hl
  refine lv_iload_n hx hb d_NP_code_0 rfl (lv_at hl 1 rfl) ?_
  refine lv_iconst (v := (-1)) hx hb d_NP_code_1 (by decide) ?_
  refine lv_icmp_ne (tgt := 13) hx hb d_NP_code_2 rfl (fun hc2 => ?_) (fun hc2 => ?_)
  · skip
    refine lv_iload_n hx hb d_NP_code_13 rfl (lv_at hl 2 rfl) ?_
    by_cases hk14_0 : j = 0
    · skip
      refine lv_tableIn (off := 26) (tgt := 40) hx hb d_NP_code_14 (by rw [hk14_0]; decide) (by rw [hk14_0]; decide) (by rw [hk14_0]; decide) rfl ?_
      refine lv_aload_n hx hb d_NP_code_40 rfl (lv_at hl 0 rfl) ?_
      refine va_get (D := G.1) (ci := 0) (v := .ref y3) (C := R_NP) (T := T_NP) (N := 5) hx hb hg in_NP hown hK hP 0 rfl rfl 3 (by decide) (hg _ mw_274) (fun _ h9 => h9) rfl d_NP_code_41 ?_
      refine lv_iload_n hx hb d_NP_code_44 rfl (lv_at hl 1 rfl) ?_
      have hPc := hP.sub (ws' := [(y3, .inr (1, [.ref x1, .ref x2, .ref x3, .int 0]))]) [1] rfl
      have hDc := hD.sub (ws' := [(y3, .inr (1, [.ref x1, .ref x2, .ref x3, .int 0]))]) [1] (by decide) rfl
      refine vp_callSi (va_Run.run (va_runV (As := [.int k]) (rest := []) ⟨hx, hb, hml, hown, hts⟩ (c_Co_operation l G _ y3 x1 x2 x3 k) (cwV 1 hts (nn_gV mw_321 mw_318 mw_319 mw_320 mw_92) rfl rfl rfl (by decide +kernel) ⟨Nat.le_of_ble_eq_true rfl, Nat.le_of_ble_eq_true rfl⟩) (nn_preV (va_recv hK hP rfl (q0 := 1) rfl) hPc hDc hK hN) rfl rfl hl.1 rfl (lv_room (Nat.le_of_ble_eq_true rfl)) d_NP_code_45 ⟨(Nat.le_of_ble_eq_true rfl), (Nat.le_of_ble_eq_true rfl)⟩)) (fun r1 er1 => ?_)
      subst er1
      exact W.iret (v := 0) hx hb hr (fun t ht hW => ⟨0, rfl, rfl, ht⟩) (fun q h => by cases h) d_NP_code_48
    by_cases hk14_1 : j = 1
    · skip
      refine lv_tableIn (off := 35) (tgt := 49) hx hb d_NP_code_14 (by rw [hk14_1]; decide) (by rw [hk14_1]; decide) (by rw [hk14_1]; decide) rfl ?_
      refine lv_aload_n hx hb d_NP_code_49 rfl (lv_at hl 0 rfl) ?_
      refine va_get (D := G.1) (ci := 0) (v := .ref y3) (C := R_NP) (T := T_NP) (N := 5) hx hb hg in_NP hown hK hP 0 rfl rfl 3 (by decide) (hg _ mw_274) (fun _ h9 => h9) rfl d_NP_code_50 ?_
      refine lv_iload_n hx hb d_NP_code_53 rfl (lv_at hl 1 rfl) ?_
      have hPc := hP.sub (ws' := [(y3, .inr (1, [.ref x1, .ref x2, .ref x3, .int 0]))]) [1] rfl
      have hDc := hD.sub (ws' := [(y3, .inr (1, [.ref x1, .ref x2, .ref x3, .int 0]))]) [1] (by decide) rfl
      refine vp_callSi (va_Run.run (va_runV (As := [.int k]) (rest := []) ⟨hx, hb, hml, hown, hts⟩ (c_Co_links l G _ y3 x1 x2 x3 k) (cwV 1 hts (nn_gV mw_329 mw_326 mw_327 mw_328 mw_92) rfl rfl rfl (by decide +kernel) ⟨Nat.le_of_ble_eq_true rfl, Nat.le_of_ble_eq_true rfl⟩) (nn_preV (va_recv hK hP rfl (q0 := 1) rfl) hPc hDc hK hN) rfl rfl hl.1 rfl (lv_room (Nat.le_of_ble_eq_true rfl)) d_NP_code_54 ⟨(Nat.le_of_ble_eq_true rfl), (Nat.le_of_ble_eq_true rfl)⟩)) (fun r2 er2 => ?_)
      subst er2
      exact W.iret (v := 0) hx hb hr (fun t ht hW => ⟨0, rfl, rfl, ht⟩) (fun q h => by cases h) d_NP_code_57
    by_cases hk14_2 : j = 2
    · skip
      refine lv_tableIn (off := 44) (tgt := 58) hx hb d_NP_code_14 (by rw [hk14_2]; decide) (by rw [hk14_2]; decide) (by rw [hk14_2]; decide) rfl ?_
      refine lv_aload_n hx hb d_NP_code_58 rfl (lv_at hl 0 rfl) ?_
      refine va_get (D := G.1) (ci := 0) (v := .ref y3) (C := R_NP) (T := T_NP) (N := 5) hx hb hg in_NP hown hK hP 0 rfl rfl 3 (by decide) (hg _ mw_274) (fun _ h9 => h9) rfl d_NP_code_59 ?_
      refine lv_iload_n hx hb d_NP_code_62 rfl (lv_at hl 1 rfl) ?_
      have hPc := hP.sub (ws' := [(y3, .inr (1, [.ref x1, .ref x2, .ref x3, .int 0]))]) [1] rfl
      have hDc := hD.sub (ws' := [(y3, .inr (1, [.ref x1, .ref x2, .ref x3, .int 0]))]) [1] (by decide) rfl
      refine vp_callSi (va_Run.run (va_runV (As := [.int k]) (rest := []) ⟨hx, hb, hml, hown, hts⟩ (c_Co_operand l G _ y3 x1 x2 x3 k) (cwV 1 hts (nn_gV mw_333 mw_330 mw_331 mw_332 mw_92) rfl rfl rfl (by decide +kernel) ⟨Nat.le_of_ble_eq_true rfl, Nat.le_of_ble_eq_true rfl⟩) (nn_preV (va_recv hK hP rfl (q0 := 1) rfl) hPc hDc hK hN) rfl rfl hl.1 rfl (lv_room (Nat.le_of_ble_eq_true rfl)) d_NP_code_63 ⟨(Nat.le_of_ble_eq_true rfl), (Nat.le_of_ble_eq_true rfl)⟩)) (fun r3 er3 => ?_)
      subst er3
      exact W.iret (v := 0) hx hb hr (fun t ht hW => ⟨0, rfl, rfl, ht⟩) (fun q h => by cases h) d_NP_code_66
    refine lv_tableOut (tgt := 67) hx hb d_NP_code_14 (nb_out3 hk14_0 hk14_1 hk14_2) rfl ?_
    refine lv_iconst (v := 0) hx hb d_NP_code_67 (by decide) ?_
    exact W.iret (v := 0) hx hb hr (fun t ht hW => ⟨0, rfl, rfl, ht⟩) (fun q h => by cases h) d_NP_code_68
  · skip
    refine lv_aload_n hx hb d_NP_code_5 rfl (lv_at hl 0 rfl) ?_
    refine va_get (D := G.1) (ci := 0) (v := .ref y3) (C := R_NP) (T := T_NP) (N := 5) hx hb hg in_NP hown hK hP 0 rfl rfl 3 (by decide) (hg _ mw_274) (fun _ h9 => h9) rfl d_NP_code_6 ?_
    have hPc := hP.sub (ws' := [(y3, .inr (1, [.ref x1, .ref x2, .ref x3, .int 0]))]) [1] rfl
    have hDc := hD.sub (ws' := [(y3, .inr (1, [.ref x1, .ref x2, .ref x3, .int 0]))]) [1] (by decide) rfl
    refine vp_callSi (va_Run.run (va_runV (As := []) (rest := []) ⟨hx, hb, hml, hown, hts⟩ (c_Co_size l G _ y3 x1 x2 x3) (cwV 0 hts (nn_gV mw_317 mw_314 mw_315 mw_316 mw_92) rfl rfl rfl (by decide +kernel) ⟨Nat.le_of_ble_eq_true rfl, Nat.le_of_ble_eq_true rfl⟩) (nn_preV (va_recv hK hP rfl (q0 := 1) rfl) hPc hDc hK hN) rfl rfl hl.1 rfl (lv_room (Nat.le_of_ble_eq_true rfl)) d_NP_code_9 ⟨(Nat.le_of_ble_eq_true rfl), (Nat.le_of_ble_eq_true rfl)⟩)) (fun r4 er4 => ?_)
    subst er4
    exact W.iret (v := 0) hx hb hr (fun t ht hW => ⟨0, rfl, rfl, ht⟩) (fun q h => by cases h) d_NP_code_12

theorem d_NP_start_0 : decode b_NP_start 0 = .ok (.aload_n 0, 1) := by decide +kernel
theorem d_NP_start_1 : decode b_NP_start 1 = .ok (.getfield 27, 3) := by decide +kernel
theorem d_NP_start_4 : decode b_NP_start 4 = .ok (.invokevirtual 61, 3) := by decide +kernel
theorem d_NP_start_7 : decode b_NP_start 7 = .ok (.ifCond .ne 5, 3) := by decide +kernel
theorem d_NP_start_10 : decode b_NP_start 10 = .ok (.iconst 0, 1) := by decide +kernel
theorem d_NP_start_11 : decode b_NP_start 11 = .ok (.ireturn, 1) := by decide +kernel

set_option maxHeartbeats 4000000 in
set_option maxRecDepth 100000 in
theorem c_NP_start (l : Launch) (G : nn_G) (sz : Nat) (h0 y1 y2 y3 y4 : Nat) (x1 x2 x3 : Nat) : Met l y_NP_start w_NP_start ({ frames := 1, cells := 0, slots := 0, locals := 20 }) (nn_P G [.ref h0] [(h0, .inr (0, [.ref y1, .int 0, .ref y2, .ref y3, .ref y4])), (y3, .inr (1, [.ref x1, .ref x2, .ref x3, .int 0]))] sz) (vp_Si (fun r => r = 0)) 0 0 (fun _ => False) := by
  refine Met.ofW (cc := b_NP_start) (maxL := 1) (ret := some .boolean) (by decide) rfl ?_
  intro p e s m args below meth c s₁ B hml hv
  obtain ⟨rfl, hsz, hP, hK, hD0, hN⟩ := hv
  have hx := B.exec
  have hb := B.bytes
  have hr := B.returns
  have hts := atoms_spec (ws := w_NP_start) B.pre
  have hg : ∀ w ∈ nn_gw, w.before _ s = true := fun w h => hts w (List.mem_cons_of_mem _ h)
  have hown : s.vm.findClass R_NP = some m.cls := findClass_of_methodNamed B.named
  have hlocks := B.notSynchronized
  subst hsz
  have hD := hD0
  generalize hAe : (fun _ : Nat => True) = A at hD
  have hA : ∀ q : Nat, s.heap.size ≤ q → A q := fun q h => by rw [← hAe]; trivial
  have hS : va_S A s.heap s.heap [] := va_S.rf
  have hP : va_P G.1 nn_cls [(h0, .inr (0, [.ref y1, .int 0, .ref y2, .ref y3, .ref y4])), (y3, .inr (1, [.ref x1, .ref x2, .ref x3, .int 0]))] s.heap := hP
  have hl := lv_entry ([.ref h0]) (n := 1) (Nat.le_of_ble_eq_true rfl)
  rw [lg_entry_eq]
  generalize (lg_sl ([.ref h0]) ++ List.replicate (1 - (lg_sl ([.ref h0])).length) Slot.unset).toArray = ls at hl ⊢
  have hl : lv_has ls 1 [(0, .ref h0)] := hl
  refine lv_aload_n hx hb d_NP_start_0 rfl (lv_at hl 0 rfl) ?_
  refine va_get (D := G.1) (ci := 0) (v := .ref y3) (C := R_NP) (T := T_NP) (N := 5) hx hb hg in_NP hown hK hP 0 rfl rfl 3 (by decide) (hg _ mw_274) (fun _ h9 => h9) rfl d_NP_start_1 ?_
  have hPc := hP.sub (ws' := [(y3, .inr (1, [.ref x1, .ref x2, .ref x3, .int 0]))]) [1] rfl
  have hDc := hD.sub (ws' := [(y3, .inr (1, [.ref x1, .ref x2, .ref x3, .int 0]))]) [1] (by decide) rfl
  refine vp_callSi (va_Run.run (va_runV (As := []) (rest := []) ⟨hx, hb, hml, hown, hts⟩ (c_Co_size l G _ y3 x1 x2 x3) (cwV 0 hts (nn_gV mw_317 mw_314 mw_315 mw_316 mw_92) rfl rfl rfl (by decide +kernel) ⟨Nat.le_of_ble_eq_true rfl, Nat.le_of_ble_eq_true rfl⟩) (nn_preV (va_recv hK hP rfl (q0 := 1) rfl) hPc hDc hK hN) rfl rfl hl.1 rfl (lv_room (Nat.le_of_ble_eq_true rfl)) d_NP_start_4 ⟨(Nat.le_of_ble_eq_true rfl), (Nat.le_of_ble_eq_true rfl)⟩)) (fun r1 er1 => ?_)
  subst er1
  refine lv_if_ne (tgt := 12) hx hb d_NP_start_7 rfl (fun h => absurd (by decide) h) (fun _ => ?_)
  refine lv_iconst (v := 0) hx hb d_NP_start_10 (by decide) ?_
  exact W.zret (v := 0) hx hb hr rfl (fun t ht hW => ⟨0, rfl, rfl, ht⟩) (fun q h => by cases h) d_NP_start_11

theorem mw_826 : (.methodLink R_NP 87 y_Ma_isRunning : Cond) ∈ nn_gw := nn_at 826 (by decide +kernel) (by decide +kernel)
theorem mw_827 : (.instanceMethod y_Ma_isRunning : Cond) ∈ nn_gw := nn_at 827 (by decide +kernel) (by decide +kernel)
theorem mw_828 : (.selects R_Ma y_Ma_isRunning y_Ma_isRunning : Cond) ∈ nn_gw := nn_at 828 (by decide +kernel) (by decide +kernel)
theorem mw_829 : (.code y_Ma_isRunning b_Ma_isRunning 1 (some .boolean) : Cond) ∈ nn_gw := nn_at 829 (by decide +kernel) (by decide +kernel)
theorem d_NP_run_0 : decode b_NP_run 0 = .ok (.iload_n 1, 1) := by decide +kernel
theorem d_NP_run_1 : decode b_NP_run 1 = .ok (.ifCond .lt 10, 3) := by decide +kernel
theorem d_NP_run_4 : decode b_NP_run 4 = .ok (.iload_n 1, 1) := by decide +kernel
theorem d_NP_run_5 : decode b_NP_run 5 = .ok (.sipush 200, 3) := by decide +kernel
theorem d_NP_run_8 : decode b_NP_run 8 = .ok (.if_icmp .le 11, 3) := by decide +kernel
theorem d_NP_run_19 : decode b_NP_run 19 = .ok (.iconst 0, 1) := by decide +kernel
theorem d_NP_run_20 : decode b_NP_run 20 = .ok (.istore_n 2, 1) := by decide +kernel
theorem d_NP_run_21 : decode b_NP_run 21 = .ok (.iload_n 2, 1) := by decide +kernel
theorem d_NP_run_22 : decode b_NP_run 22 = .ok (.iload_n 1, 1) := by decide +kernel
theorem d_NP_run_23 : decode b_NP_run 23 = .ok (.if_icmp .ge 30, 3) := by decide +kernel
theorem d_NP_run_26 : decode b_NP_run 26 = .ok (.aload_n 0, 1) := by decide +kernel
theorem d_NP_run_27 : decode b_NP_run 27 = .ok (.getfield 34, 3) := by decide +kernel
theorem d_NP_run_30 : decode b_NP_run 30 = .ok (.invokevirtual 87, 3) := by decide +kernel
theorem d_NP_run_33 : decode b_NP_run 33 = .ok (.ifCond .eq 20, 3) := by decide +kernel
theorem d_NP_run_53 : decode b_NP_run 53 = .ok (.iload_n 2, 1) := by decide +kernel
theorem d_NP_run_54 : decode b_NP_run 54 = .ok (.ireturn, 1) := by decide +kernel

set_option maxHeartbeats 4000000 in
set_option maxRecDepth 100000 in
theorem c_NP_run (l : Launch) (G : nn_G) (sz : Nat) (h0 y1 y2 y3 y4 : Nat) (x1 x2 : Nat) (n : Int32) (hn0 : ¬ n < 0) (hn1 : n ≤ 200) : Met l y_NP_run w_NP_run ({ frames := 1, cells := 0, slots := 0, locals := 20 }) (nn_P G [.ref h0, .int n] [(h0, .inr (0, [.ref y1, .int 0, .ref y2, .ref y3, .ref y4])), (y4, .inr (3, [.ref x1, .ref x2, .int 0, .int 0, .int 0, .int (-1), .int 0, .int 0]))] sz) (vp_Si (fun r => r = 0)) 0 0 (fun _ => False) := by
  refine Met.ofW (cc := b_NP_run) (maxL := 3) (ret := some .int) (by decide) rfl ?_
  intro p e s m args below meth c s₁ B hml hv
  obtain ⟨rfl, hsz, hP, hK, hD0, hN⟩ := hv
  have hx := B.exec
  have hb := B.bytes
  have hr := B.returns
  have hts := atoms_spec (ws := w_NP_run) B.pre
  have hg : ∀ w ∈ nn_gw, w.before _ s = true := fun w h => hts w (List.mem_cons_of_mem _ h)
  have hown : s.vm.findClass R_NP = some m.cls := findClass_of_methodNamed B.named
  have hlocks := B.notSynchronized
  subst hsz
  have hD := hD0
  generalize hAe : (fun _ : Nat => True) = A at hD
  have hA : ∀ q : Nat, s.heap.size ≤ q → A q := fun q h => by rw [← hAe]; trivial
  have hS : va_S A s.heap s.heap [] := va_S.rf
  have hP : va_P G.1 nn_cls [(h0, .inr (0, [.ref y1, .int 0, .ref y2, .ref y3, .ref y4])), (y4, .inr (3, [.ref x1, .ref x2, .int 0, .int 0, .int 0, .int (-1), .int 0, .int 0]))] s.heap := hP
  have hl := lv_entry ([.ref h0, .int n]) (n := 3) (Nat.le_of_ble_eq_true rfl)
  rw [lg_entry_eq]
  generalize (lg_sl ([.ref h0, .int n]) ++ List.replicate (3 - (lg_sl ([.ref h0, .int n])).length) Slot.unset).toArray = ls at hl ⊢
  have hl : lv_has ls 3 [(0, .ref h0), (1, .int n)] := hl
  refine lv_iload_n hx hb d_NP_run_0 rfl (lv_at hl 1 rfl) ?_
  refine lv_if_lt (tgt := 11) hx hb d_NP_run_1 rfl (fun h => absurd h (hn0)) (fun _ => ?_)
  refine lv_iload_n hx hb d_NP_run_4 rfl (lv_at hl 1 rfl) ?_
  refine lv_sipush (v := 200) hx hb d_NP_run_5 (by decide) ?_
  refine lv_icmp_le (tgt := 19) hx hb d_NP_run_8 rfl (fun _ => ?_) (fun h => absurd (hn1) h)
  refine lv_iconst (v := 0) hx hb d_NP_run_19 (by decide) ?_
  refine lv_istore_n (lv' := [(2, .int 0), (0, .ref h0), (1, .int n)]) hx hb d_NP_run_20 rfl hl (by decide) rfl (fun ls hl => ?_)
  refine lv_iload_n hx hb d_NP_run_21 rfl (lv_at hl 0 rfl) ?_
  refine lv_iload_n hx hb d_NP_run_22 rfl (lv_at hl 2 rfl) ?_
  refine lv_icmp_ge (tgt := 53) hx hb d_NP_run_23 rfl (fun hc23 => ?_) (fun hc23 => ?_)
  · skip
    refine lv_iload_n hx hb d_NP_run_53 rfl (lv_at hl 0 rfl) ?_
    exact W.iret (v := 0) hx hb hr (fun t ht hW => ⟨0, rfl, rfl, ht⟩) (fun q h => by cases h) d_NP_run_54
  · skip
    refine lv_aload_n hx hb d_NP_run_26 rfl (lv_at hl 1 rfl) ?_
    refine va_get (D := G.1) (ci := 0) (v := .ref y4) (C := R_NP) (T := T_NP) (N := 5) hx hb hg in_NP hown hK hP 0 rfl rfl 4 (by decide) (hg _ mw_275) (fun _ h9 => h9) rfl d_NP_run_27 ?_
    have hPc := hP.sub (ws' := [(y4, .inr (3, [.ref x1, .ref x2, .int 0, .int 0, .int 0, .int (-1), .int 0, .int 0]))]) [1] rfl
    have hDc := hD.sub (ws' := [(y4, .inr (3, [.ref x1, .ref x2, .int 0, .int 0, .int 0, .int (-1), .int 0, .int 0]))]) [1] (by decide) rfl
    refine vp_callSi (va_Run.run (va_runV (As := []) (rest := []) ⟨hx, hb, hml, hown, hts⟩ (c_Ma_isRunning l G _ y4 x1 x2) (cwV 0 hts (nn_gV mw_829 mw_826 mw_827 mw_828 mw_93) rfl rfl rfl (by decide +kernel) ⟨Nat.le_of_ble_eq_true rfl, Nat.le_of_ble_eq_true rfl⟩) (nn_preV (va_recv hK hP rfl (q0 := 1) rfl) hPc hDc hK hN) rfl rfl hl.1 rfl (lv_room (Nat.le_of_ble_eq_true rfl)) d_NP_run_30 ⟨(Nat.le_of_ble_eq_true rfl), (Nat.le_of_ble_eq_true rfl)⟩)) (fun r1 er1 => ?_)
    subst er1
    refine lv_if_eq (tgt := 53) hx hb d_NP_run_33 rfl (fun _ => ?_) (fun h => absurd (by decide) h)
    refine lv_iload_n hx hb d_NP_run_53 rfl (lv_at hl 0 rfl) ?_
    exact W.iret (v := 0) hx hb hr (fun t ht hW => ⟨0, rfl, rfl, ht⟩) (fun q h => by cases h) d_NP_run_54

theorem mw_353 : (.methodLink R_NP 94 y_Ma_fact : Cond) ∈ nn_gw := nn_at 353 (by decide +kernel) (by decide +kernel)
theorem mw_354 : (.instanceMethod y_Ma_fact : Cond) ∈ nn_gw := nn_at 354 (by decide +kernel) (by decide +kernel)
theorem mw_355 : (.selects R_Ma y_Ma_fact y_Ma_fact : Cond) ∈ nn_gw := nn_at 355 (by decide +kernel) (by decide +kernel)
theorem mw_356 : (.code y_Ma_fact b_Ma_fact 2 (some .int) : Cond) ∈ nn_gw := nn_at 356 (by decide +kernel) (by decide +kernel)
theorem d_NP_about_0 : decode b_NP_about 0 = .ok (.aload_n 0, 1) := by decide +kernel
theorem d_NP_about_1 : decode b_NP_about 1 = .ok (.getfield 34, 3) := by decide +kernel
theorem d_NP_about_4 : decode b_NP_about 4 = .ok (.iload_n 1, 1) := by decide +kernel
theorem d_NP_about_5 : decode b_NP_about 5 = .ok (.invokevirtual 94, 3) := by decide +kernel
theorem d_NP_about_8 : decode b_NP_about 8 = .ok (.ireturn, 1) := by decide +kernel

set_option maxHeartbeats 4000000 in
set_option maxRecDepth 100000 in
theorem c_NP_about (l : Launch) (G : nn_G) (sz : Nat) (h0 y1 y2 y3 y4 : Nat) (x1 x2 : Nat) (w : Int32) : Met l y_NP_about w_NP_about ({ frames := 1, cells := 0, slots := 0, locals := 21 }) (nn_P G [.ref h0, .int w] [(h0, .inr (0, [.ref y1, .int 0, .ref y2, .ref y3, .ref y4])), (y4, .inr (3, [.ref x1, .ref x2, .int 0, .int 0, .int 0, .int (-1), .int 0, .int 0]))] sz) (vp_Si (fun r => r = nb_ab w)) 0 0 (fun _ => False) := by
  refine Met.ofW (cc := b_NP_about) (maxL := 2) (ret := some .int) (by decide) rfl ?_
  intro p e s m args below meth c s₁ B hml hv
  obtain ⟨rfl, hsz, hP, hK, hD0, hN⟩ := hv
  have hx := B.exec
  have hb := B.bytes
  have hr := B.returns
  have hts := atoms_spec (ws := w_NP_about) B.pre
  have hg : ∀ w ∈ nn_gw, w.before _ s = true := fun w h => hts w (List.mem_cons_of_mem _ h)
  have hown : s.vm.findClass R_NP = some m.cls := findClass_of_methodNamed B.named
  have hlocks := B.notSynchronized
  subst hsz
  have hD := hD0
  generalize hAe : (fun _ : Nat => True) = A at hD
  have hA : ∀ q : Nat, s.heap.size ≤ q → A q := fun q h => by rw [← hAe]; trivial
  have hS : va_S A s.heap s.heap [] := va_S.rf
  have hP : va_P G.1 nn_cls [(h0, .inr (0, [.ref y1, .int 0, .ref y2, .ref y3, .ref y4])), (y4, .inr (3, [.ref x1, .ref x2, .int 0, .int 0, .int 0, .int (-1), .int 0, .int 0]))] s.heap := hP
  have hl := lv_entry ([.ref h0, .int w]) (n := 2) (Nat.le_of_ble_eq_true rfl)
  rw [lg_entry_eq]
  generalize (lg_sl ([.ref h0, .int w]) ++ List.replicate (2 - (lg_sl ([.ref h0, .int w])).length) Slot.unset).toArray = ls at hl ⊢
  have hl : lv_has ls 2 [(0, .ref h0), (1, .int w)] := hl
  refine lv_aload_n hx hb d_NP_about_0 rfl (lv_at hl 0 rfl) ?_
  refine va_get (D := G.1) (ci := 0) (v := .ref y4) (C := R_NP) (T := T_NP) (N := 5) hx hb hg in_NP hown hK hP 0 rfl rfl 4 (by decide) (hg _ mw_275) (fun _ h9 => h9) rfl d_NP_about_1 ?_
  refine lv_iload_n hx hb d_NP_about_4 rfl (lv_at hl 1 rfl) ?_
  have hPc := hP.sub (ws' := [(y4, .inr (3, [.ref x1, .ref x2, .int 0, .int 0, .int 0, .int (-1), .int 0, .int 0]))]) [1] rfl
  have hDc := hD.sub (ws' := [(y4, .inr (3, [.ref x1, .ref x2, .int 0, .int 0, .int 0, .int (-1), .int 0, .int 0]))]) [1] (by decide) rfl
  refine vp_callSi (va_Run.run (va_runV (As := [.int w]) (rest := []) ⟨hx, hb, hml, hown, hts⟩ (c_Ma_fact l G _ y4 x1 x2 w) (cwV 1 hts (nn_gV mw_356 mw_353 mw_354 mw_355 mw_93) rfl rfl rfl (by decide +kernel) ⟨Nat.le_of_ble_eq_true rfl, Nat.le_of_ble_eq_true rfl⟩) (nn_preV (va_recv hK hP rfl (q0 := 1) rfl) hPc hDc hK hN) rfl rfl hl.1 rfl (lv_room (Nat.le_of_ble_eq_true rfl)) d_NP_about_5 ⟨(Nat.le_of_ble_eq_true rfl), (Nat.le_of_ble_eq_true rfl)⟩)) (fun r1 er1 => ?_)
  subst er1
  exact W.iret (v := nb_ab w) hx hb hr (fun t ht hW => ⟨nb_ab w, rfl, rfl, ht⟩) (fun q h => by cases h) d_NP_about_8

theorem mw_361 : (.methodLink R_NP 97 y_Ma_visibleCell : Cond) ∈ nn_gw := nn_at 361 (by decide +kernel) (by decide +kernel)
theorem mw_362 : (.instanceMethod y_Ma_visibleCell : Cond) ∈ nn_gw := nn_at 362 (by decide +kernel) (by decide +kernel)
theorem mw_363 : (.selects R_Ma y_Ma_visibleCell y_Ma_visibleCell : Cond) ∈ nn_gw := nn_at 363 (by decide +kernel) (by decide +kernel)
theorem mw_364 : (.code y_Ma_visibleCell b_Ma_visibleCell 3 (some .int) : Cond) ∈ nn_gw := nn_at 364 (by decide +kernel) (by decide +kernel)
theorem d_NP_cell_0 : decode b_NP_cell 0 = .ok (.aload_n 0, 1) := by decide +kernel
theorem d_NP_cell_1 : decode b_NP_cell 1 = .ok (.getfield 34, 3) := by decide +kernel
theorem d_NP_cell_4 : decode b_NP_cell 4 = .ok (.iload_n 1, 1) := by decide +kernel
theorem d_NP_cell_5 : decode b_NP_cell 5 = .ok (.invokevirtual 97, 3) := by decide +kernel
theorem d_NP_cell_8 : decode b_NP_cell 8 = .ok (.ireturn, 1) := by decide +kernel

set_option maxHeartbeats 4000000 in
set_option maxRecDepth 100000 in
theorem c_NP_cell (l : Launch) (G : nn_G) (sz : Nat) (h0 y1 y2 y3 y4 : Nat) (x1 x2 : Nat) (k : Int32) : Met l y_NP_cell w_NP_cell ({ frames := 2, cells := 0, slots := 0, locals := 43 }) (nn_P G [.ref h0, .int k] [(h0, .inr (0, [.ref y1, .int 0, .ref y2, .ref y3, .ref y4])), (y4, .inr (3, [.ref x1, .ref x2, .int 0, .int 0, .int 0, .int (-1), .int 0, .int 0])), (x1, .inl (G.2 0, 200, .inl (fun _ => 0)))] sz) (vp_Si (fun r => r = 0)) 0 0 (fun _ => False) := by
  refine Met.ofW (cc := b_NP_cell) (maxL := 2) (ret := some .int) (by decide) rfl ?_
  intro p e s m args below meth c s₁ B hml hv
  obtain ⟨rfl, hsz, hP, hK, hD0, hN⟩ := hv
  have hx := B.exec
  have hb := B.bytes
  have hr := B.returns
  have hts := atoms_spec (ws := w_NP_cell) B.pre
  have hg : ∀ w ∈ nn_gw, w.before _ s = true := fun w h => hts w (List.mem_cons_of_mem _ h)
  have hown : s.vm.findClass R_NP = some m.cls := findClass_of_methodNamed B.named
  have hlocks := B.notSynchronized
  subst hsz
  have hD := hD0
  generalize hAe : (fun _ : Nat => True) = A at hD
  have hA : ∀ q : Nat, s.heap.size ≤ q → A q := fun q h => by rw [← hAe]; trivial
  have hS : va_S A s.heap s.heap [] := va_S.rf
  have hP : va_P G.1 nn_cls [(h0, .inr (0, [.ref y1, .int 0, .ref y2, .ref y3, .ref y4])), (y4, .inr (3, [.ref x1, .ref x2, .int 0, .int 0, .int 0, .int (-1), .int 0, .int 0])), (x1, .inl (G.2 0, 200, .inl (fun _ => 0)))] s.heap := hP
  have hl := lv_entry ([.ref h0, .int k]) (n := 2) (Nat.le_of_ble_eq_true rfl)
  rw [lg_entry_eq]
  generalize (lg_sl ([.ref h0, .int k]) ++ List.replicate (2 - (lg_sl ([.ref h0, .int k])).length) Slot.unset).toArray = ls at hl ⊢
  have hl : lv_has ls 2 [(0, .ref h0), (1, .int k)] := hl
  refine lv_aload_n hx hb d_NP_cell_0 rfl (lv_at hl 0 rfl) ?_
  refine va_get (D := G.1) (ci := 0) (v := .ref y4) (C := R_NP) (T := T_NP) (N := 5) hx hb hg in_NP hown hK hP 0 rfl rfl 4 (by decide) (hg _ mw_275) (fun _ h9 => h9) rfl d_NP_cell_1 ?_
  refine lv_iload_n hx hb d_NP_cell_4 rfl (lv_at hl 1 rfl) ?_
  have hPc := hP.sub (ws' := [(y4, .inr (3, [.ref x1, .ref x2, .int 0, .int 0, .int 0, .int (-1), .int 0, .int 0])), (x1, .inl (G.2 0, 200, .inl (fun _ => 0)))]) [1, 2] rfl
  have hDc := hD.sub (ws' := [(y4, .inr (3, [.ref x1, .ref x2, .int 0, .int 0, .int 0, .int (-1), .int 0, .int 0])), (x1, .inl (G.2 0, 200, .inl (fun _ => 0)))]) [1, 2] (by decide) rfl
  refine vp_callSi (va_Run.run (va_runV (As := [.int k]) (rest := []) ⟨hx, hb, hml, hown, hts⟩ (c_Ma_visibleCell l G _ y4 x1 x2 k) (cwV 1 hts (nn_gV mw_364 mw_361 mw_362 mw_363 mw_93) rfl rfl rfl (by decide +kernel) ⟨Nat.le_of_ble_eq_true rfl, Nat.le_of_ble_eq_true rfl⟩) (nn_preV (va_recv hK hP rfl (q0 := 1) rfl) hPc hDc hK hN) rfl rfl hl.1 rfl (lv_room (Nat.le_of_ble_eq_true rfl)) d_NP_cell_5 ⟨(Nat.le_of_ble_eq_true rfl), (Nat.le_of_ble_eq_true rfl)⟩)) (fun r1 er1 => ?_)
  subst er1
  exact W.iret (v := 0) hx hb hr (fun t ht hW => ⟨0, rfl, rfl, ht⟩) (fun q h => by cases h) d_NP_cell_8

theorem mw_373 : (.methodLink R_NP 100 y_Ma_output : Cond) ∈ nn_gw := nn_at 373 (by decide +kernel) (by decide +kernel)
theorem mw_374 : (.instanceMethod y_Ma_output : Cond) ∈ nn_gw := nn_at 374 (by decide +kernel) (by decide +kernel)
theorem mw_375 : (.selects R_Ma y_Ma_output y_Ma_output : Cond) ∈ nn_gw := nn_at 375 (by decide +kernel) (by decide +kernel)
theorem mw_376 : (.code y_Ma_output b_Ma_output 2 (some .int) : Cond) ∈ nn_gw := nn_at 376 (by decide +kernel) (by decide +kernel)
theorem d_NP_written_0 : decode b_NP_written 0 = .ok (.aload_n 0, 1) := by decide +kernel
theorem d_NP_written_1 : decode b_NP_written 1 = .ok (.getfield 34, 3) := by decide +kernel
theorem d_NP_written_4 : decode b_NP_written 4 = .ok (.iload_n 1, 1) := by decide +kernel
theorem d_NP_written_5 : decode b_NP_written 5 = .ok (.invokevirtual 100, 3) := by decide +kernel
theorem d_NP_written_8 : decode b_NP_written 8 = .ok (.ireturn, 1) := by decide +kernel

set_option maxHeartbeats 4000000 in
set_option maxRecDepth 100000 in
theorem c_NP_written (l : Launch) (G : nn_G) (sz : Nat) (h0 y1 y2 y3 y4 : Nat) (x1 x2 : Nat) (k : Int32) : Met l y_NP_written w_NP_written ({ frames := 1, cells := 0, slots := 0, locals := 21 }) (nn_P G [.ref h0, .int k] [(h0, .inr (0, [.ref y1, .int 0, .ref y2, .ref y3, .ref y4])), (y4, .inr (3, [.ref x1, .ref x2, .int 0, .int 0, .int 0, .int (-1), .int 0, .int 0]))] sz) (vp_Si (fun r => r = 0)) 0 0 (fun _ => False) := by
  refine Met.ofW (cc := b_NP_written) (maxL := 2) (ret := some .int) (by decide) rfl ?_
  intro p e s m args below meth c s₁ B hml hv
  obtain ⟨rfl, hsz, hP, hK, hD0, hN⟩ := hv
  have hx := B.exec
  have hb := B.bytes
  have hr := B.returns
  have hts := atoms_spec (ws := w_NP_written) B.pre
  have hg : ∀ w ∈ nn_gw, w.before _ s = true := fun w h => hts w (List.mem_cons_of_mem _ h)
  have hown : s.vm.findClass R_NP = some m.cls := findClass_of_methodNamed B.named
  have hlocks := B.notSynchronized
  subst hsz
  have hD := hD0
  generalize hAe : (fun _ : Nat => True) = A at hD
  have hA : ∀ q : Nat, s.heap.size ≤ q → A q := fun q h => by rw [← hAe]; trivial
  have hS : va_S A s.heap s.heap [] := va_S.rf
  have hP : va_P G.1 nn_cls [(h0, .inr (0, [.ref y1, .int 0, .ref y2, .ref y3, .ref y4])), (y4, .inr (3, [.ref x1, .ref x2, .int 0, .int 0, .int 0, .int (-1), .int 0, .int 0]))] s.heap := hP
  have hl := lv_entry ([.ref h0, .int k]) (n := 2) (Nat.le_of_ble_eq_true rfl)
  rw [lg_entry_eq]
  generalize (lg_sl ([.ref h0, .int k]) ++ List.replicate (2 - (lg_sl ([.ref h0, .int k])).length) Slot.unset).toArray = ls at hl ⊢
  have hl : lv_has ls 2 [(0, .ref h0), (1, .int k)] := hl
  refine lv_aload_n hx hb d_NP_written_0 rfl (lv_at hl 0 rfl) ?_
  refine va_get (D := G.1) (ci := 0) (v := .ref y4) (C := R_NP) (T := T_NP) (N := 5) hx hb hg in_NP hown hK hP 0 rfl rfl 4 (by decide) (hg _ mw_275) (fun _ h9 => h9) rfl d_NP_written_1 ?_
  refine lv_iload_n hx hb d_NP_written_4 rfl (lv_at hl 1 rfl) ?_
  have hPc := hP.sub (ws' := [(y4, .inr (3, [.ref x1, .ref x2, .int 0, .int 0, .int 0, .int (-1), .int 0, .int 0]))]) [1] rfl
  have hDc := hD.sub (ws' := [(y4, .inr (3, [.ref x1, .ref x2, .int 0, .int 0, .int 0, .int (-1), .int 0, .int 0]))]) [1] (by decide) rfl
  refine vp_callSi (va_Run.run (va_runV (As := [.int k]) (rest := []) ⟨hx, hb, hml, hown, hts⟩ (c_Ma_output l G _ y4 x1 x2 k) (cwV 1 hts (nn_gV mw_376 mw_373 mw_374 mw_375 mw_93) rfl rfl rfl (by decide +kernel) ⟨Nat.le_of_ble_eq_true rfl, Nat.le_of_ble_eq_true rfl⟩) (nn_preV (va_recv hK hP rfl (q0 := 1) rfl) hPc hDc hK hN) rfl rfl hl.1 rfl (lv_room (Nat.le_of_ble_eq_true rfl)) d_NP_written_5 ⟨(Nat.le_of_ble_eq_true rfl), (Nat.le_of_ble_eq_true rfl)⟩)) (fun r1 er1 => ?_)
  subst er1
  exact W.iret (v := 0) hx hb hr (fun t ht hW => ⟨0, rfl, rfl, ht⟩) (fun q h => by cases h) d_NP_written_8

theorem mw_381 : (.methodLink R_NP 103 y_Ma_found : Cond) ∈ nn_gw := nn_at 381 (by decide +kernel) (by decide +kernel)
theorem mw_382 : (.instanceMethod y_Ma_found : Cond) ∈ nn_gw := nn_at 382 (by decide +kernel) (by decide +kernel)
theorem mw_383 : (.selects R_Ma y_Ma_found y_Ma_found : Cond) ∈ nn_gw := nn_at 383 (by decide +kernel) (by decide +kernel)
theorem mw_384 : (.code y_Ma_found b_Ma_found 5 (some .int) : Cond) ∈ nn_gw := nn_at 384 (by decide +kernel) (by decide +kernel)
theorem d_NP_variable_0 : decode b_NP_variable 0 = .ok (.aload_n 0, 1) := by decide +kernel
theorem d_NP_variable_1 : decode b_NP_variable 1 = .ok (.getfield 34, 3) := by decide +kernel
theorem d_NP_variable_4 : decode b_NP_variable 4 = .ok (.iload_n 1, 1) := by decide +kernel
theorem d_NP_variable_5 : decode b_NP_variable 5 = .ok (.iload_n 2, 1) := by decide +kernel
theorem d_NP_variable_6 : decode b_NP_variable 6 = .ok (.invokevirtual 103, 3) := by decide +kernel
theorem d_NP_variable_9 : decode b_NP_variable 9 = .ok (.ireturn, 1) := by decide +kernel

set_option maxHeartbeats 4000000 in
set_option maxRecDepth 100000 in
theorem c_NP_variable (l : Launch) (G : nn_G) (sz : Nat) (h0 y1 y2 y3 y4 : Nat) (x1 x2 : Nat) (i j : Int32) : Met l y_NP_variable w_NP_variable ({ frames := 1, cells := 0, slots := 0, locals := 24 }) (nn_P G [.ref h0, .int i, .int j] [(h0, .inr (0, [.ref y1, .int 0, .ref y2, .ref y3, .ref y4])), (y4, .inr (3, [.ref x1, .ref x2, .int 0, .int 0, .int 0, .int (-1), .int 0, .int 0]))] sz) (vp_Si (fun r => r = 0)) 0 0 (fun _ => False) := by
  refine Met.ofW (cc := b_NP_variable) (maxL := 3) (ret := some .int) (by decide) rfl ?_
  intro p e s m args below meth c s₁ B hml hv
  obtain ⟨rfl, hsz, hP, hK, hD0, hN⟩ := hv
  have hx := B.exec
  have hb := B.bytes
  have hr := B.returns
  have hts := atoms_spec (ws := w_NP_variable) B.pre
  have hg : ∀ w ∈ nn_gw, w.before _ s = true := fun w h => hts w (List.mem_cons_of_mem _ h)
  have hown : s.vm.findClass R_NP = some m.cls := findClass_of_methodNamed B.named
  have hlocks := B.notSynchronized
  subst hsz
  have hD := hD0
  generalize hAe : (fun _ : Nat => True) = A at hD
  have hA : ∀ q : Nat, s.heap.size ≤ q → A q := fun q h => by rw [← hAe]; trivial
  have hS : va_S A s.heap s.heap [] := va_S.rf
  have hP : va_P G.1 nn_cls [(h0, .inr (0, [.ref y1, .int 0, .ref y2, .ref y3, .ref y4])), (y4, .inr (3, [.ref x1, .ref x2, .int 0, .int 0, .int 0, .int (-1), .int 0, .int 0]))] s.heap := hP
  have hl := lv_entry ([.ref h0, .int i, .int j]) (n := 3) (Nat.le_of_ble_eq_true rfl)
  rw [lg_entry_eq]
  generalize (lg_sl ([.ref h0, .int i, .int j]) ++ List.replicate (3 - (lg_sl ([.ref h0, .int i, .int j])).length) Slot.unset).toArray = ls at hl ⊢
  have hl : lv_has ls 3 [(0, .ref h0), (1, .int i), (2, .int j)] := hl
  refine lv_aload_n hx hb d_NP_variable_0 rfl (lv_at hl 0 rfl) ?_
  refine va_get (D := G.1) (ci := 0) (v := .ref y4) (C := R_NP) (T := T_NP) (N := 5) hx hb hg in_NP hown hK hP 0 rfl rfl 4 (by decide) (hg _ mw_275) (fun _ h9 => h9) rfl d_NP_variable_1 ?_
  refine lv_iload_n hx hb d_NP_variable_4 rfl (lv_at hl 1 rfl) ?_
  refine lv_iload_n hx hb d_NP_variable_5 rfl (lv_at hl 2 rfl) ?_
  have hPc := hP.sub (ws' := [(y4, .inr (3, [.ref x1, .ref x2, .int 0, .int 0, .int 0, .int (-1), .int 0, .int 0]))]) [1] rfl
  have hDc := hD.sub (ws' := [(y4, .inr (3, [.ref x1, .ref x2, .int 0, .int 0, .int 0, .int (-1), .int 0, .int 0]))]) [1] (by decide) rfl
  refine vp_callSi (va_Run.run (va_runV (As := [.int i, .int j]) (rest := []) ⟨hx, hb, hml, hown, hts⟩ (c_Ma_found l G _ y4 x1 x2 i j) (cwV 2 hts (nn_gV mw_384 mw_381 mw_382 mw_383 mw_93) rfl rfl rfl (by decide +kernel) ⟨Nat.le_of_ble_eq_true rfl, Nat.le_of_ble_eq_true rfl⟩) (nn_preV (va_recv hK hP rfl (q0 := 1) rfl) hPc hDc hK hN) rfl rfl hl.1 rfl (lv_room (Nat.le_of_ble_eq_true rfl)) d_NP_variable_6 ⟨(Nat.le_of_ble_eq_true rfl), (Nat.le_of_ble_eq_true rfl)⟩)) (fun r1 er1 => ?_)
  subst er1
  exact W.iret (v := 0) hx hb hr (fun t ht hW => ⟨0, rfl, rfl, ht⟩) (fun q h => by cases h) d_NP_variable_9
