/-! contracts (by wip/p1/gen.py) -/
theorem d_Ts_isLetter_0 : decode b_Ts_isLetter 0 = .ok (.iload_n 0, 1) := by decide +kernel
theorem d_Ts_isLetter_1 : decode b_Ts_isLetter 1 = .ok (.bipush 97, 2) := by decide +kernel
theorem d_Ts_isLetter_3 : decode b_Ts_isLetter 3 = .ok (.if_icmp .lt 13, 3) := by decide +kernel
theorem d_Ts_isLetter_6 : decode b_Ts_isLetter 6 = .ok (.iload_n 0, 1) := by decide +kernel
theorem d_Ts_isLetter_7 : decode b_Ts_isLetter 7 = .ok (.bipush 122, 2) := by decide +kernel
theorem d_Ts_isLetter_9 : decode b_Ts_isLetter 9 = .ok (.if_icmp .gt 7, 3) := by decide +kernel
theorem d_Ts_isLetter_12 : decode b_Ts_isLetter 12 = .ok (.iconst 1, 1) := by decide +kernel
theorem d_Ts_isLetter_13 : decode b_Ts_isLetter 13 = .ok (.goto 4, 3) := by decide +kernel
theorem d_Ts_isLetter_16 : decode b_Ts_isLetter 16 = .ok (.iconst 0, 1) := by decide +kernel
theorem d_Ts_isLetter_17 : decode b_Ts_isLetter 17 = .ok (.ireturn, 1) := by decide +kernel

set_option maxHeartbeats 4000000 in
set_option maxRecDepth 100000 in
theorem k_isLetter (l : Launch) (G : nn_G) (tk : Nat → Nat) (sz : Nat) (x : Int32) : Met l y_Ts_isLetter w_Ts_isLetter ({ frames := 0, cells := 0, slots := 0, locals := 0 }) (nz_PR G tk [.int x] [] sz) (vp_Si (fun r => True)) 0 0 (fun _ => False) := by
  refine Met.ofW (cc := b_Ts_isLetter) (maxL := 1) (ret := some .boolean) (by decide) rfl ?_
  intro p e s m args below meth c s₁ B hml hv
  obtain ⟨rfl, ⟨hsz, hP, hK, hD0, hN⟩, hE⟩ := hv
  have hx := B.exec
  have hb := B.bytes
  have hr := B.returns
  have hts := atoms_spec (ws := w_Ts_isLetter) B.pre
  have hg : ∀ w ∈ nn_gw, w.before _ s = true := fun w h => hts w (List.mem_cons_of_mem _ h)
  have hown : s.vm.findClass R_Ts = some m.cls := findClass_of_methodNamed B.named
  have hlocks := B.notSynchronized
  subst hsz
  have hD := hD0
  generalize hAe : (fun _ : Nat => True) = A at hD
  have hA : ∀ q : Nat, s.heap.size ≤ q → A q := fun q h => by rw [← hAe]; trivial
  have hSE : va_S (fun _ => False) s.heap s.heap [] := va_S.rf
  have hS : va_S A s.heap s.heap [] := va_S.rf
  have hP : va_P G.1 nn_cls [] s.heap := hP
  have hl := lv_entry ([.int x]) (n := 1) (Nat.le_of_ble_eq_true rfl)
  rw [lg_entry_eq]
  generalize (lg_sl ([.int x]) ++ List.replicate (1 - (lg_sl ([.int x])).length) Slot.unset).toArray = ls at hl ⊢
  have hl : lv_has ls 1 [(0, .int x)] := hl
  refine lv_iload_n hx hb d_Ts_isLetter_0 rfl (lv_at hl 0 rfl) ?_
  refine lv_bipush (v := 97) hx hb d_Ts_isLetter_1 (by decide) ?_
  refine lv_icmp_lt (tgt := 16) hx hb d_Ts_isLetter_3 rfl (fun hc3 => ?_) (fun hc3 => ?_)
  · skip
    refine lv_iconst (v := 0) hx hb d_Ts_isLetter_16 (by decide) ?_
    exact W.zret (v := 0) hx hb hr (by first | rfl | rfl) (fun t ht hW => ⟨0, rfl, trivial, ht⟩) (fun q h => by cases h) d_Ts_isLetter_17
  · skip
    refine lv_iload_n hx hb d_Ts_isLetter_6 rfl (lv_at hl 0 rfl) ?_
    refine lv_bipush (v := 122) hx hb d_Ts_isLetter_7 (by decide) ?_
    refine lv_icmp_gt (tgt := 16) hx hb d_Ts_isLetter_9 rfl (fun hc9 => ?_) (fun hc9 => ?_)
    · skip
      refine lv_iconst (v := 0) hx hb d_Ts_isLetter_16 (by decide) ?_
      exact W.zret (v := 0) hx hb hr (by first | rfl | rfl) (fun t ht hW => ⟨0, rfl, trivial, ht⟩) (fun q h => by cases h) d_Ts_isLetter_17
    · skip
      refine lv_iconst (v := 1) hx hb d_Ts_isLetter_12 (by decide) ?_
      refine lv_goto (tgt := 17) hx hb d_Ts_isLetter_13 rfl ?_
      exact W.zret (v := 1) hx hb hr (by first | rfl | rfl) (fun t ht hW => ⟨1, rfl, trivial, ht⟩) (fun q h => by cases h) d_Ts_isLetter_17

theorem d_Ts_isDigit_0 : decode b_Ts_isDigit 0 = .ok (.iload_n 0, 1) := by decide +kernel
theorem d_Ts_isDigit_1 : decode b_Ts_isDigit 1 = .ok (.bipush 48, 2) := by decide +kernel
theorem d_Ts_isDigit_3 : decode b_Ts_isDigit 3 = .ok (.if_icmp .lt 13, 3) := by decide +kernel
theorem d_Ts_isDigit_6 : decode b_Ts_isDigit 6 = .ok (.iload_n 0, 1) := by decide +kernel
theorem d_Ts_isDigit_7 : decode b_Ts_isDigit 7 = .ok (.bipush 57, 2) := by decide +kernel
theorem d_Ts_isDigit_9 : decode b_Ts_isDigit 9 = .ok (.if_icmp .gt 7, 3) := by decide +kernel
theorem d_Ts_isDigit_12 : decode b_Ts_isDigit 12 = .ok (.iconst 1, 1) := by decide +kernel
theorem d_Ts_isDigit_13 : decode b_Ts_isDigit 13 = .ok (.goto 4, 3) := by decide +kernel
theorem d_Ts_isDigit_16 : decode b_Ts_isDigit 16 = .ok (.iconst 0, 1) := by decide +kernel
theorem d_Ts_isDigit_17 : decode b_Ts_isDigit 17 = .ok (.ireturn, 1) := by decide +kernel

set_option maxHeartbeats 4000000 in
set_option maxRecDepth 100000 in
theorem k_isDigit (l : Launch) (G : nn_G) (tk : Nat → Nat) (sz : Nat) (x : Int32) : Met l y_Ts_isDigit w_Ts_isDigit ({ frames := 0, cells := 0, slots := 0, locals := 0 }) (nz_PR G tk [.int x] [] sz) (vp_Si (fun r => True)) 0 0 (fun _ => False) := by
  refine Met.ofW (cc := b_Ts_isDigit) (maxL := 1) (ret := some .boolean) (by decide) rfl ?_
  intro p e s m args below meth c s₁ B hml hv
  obtain ⟨rfl, ⟨hsz, hP, hK, hD0, hN⟩, hE⟩ := hv
  have hx := B.exec
  have hb := B.bytes
  have hr := B.returns
  have hts := atoms_spec (ws := w_Ts_isDigit) B.pre
  have hg : ∀ w ∈ nn_gw, w.before _ s = true := fun w h => hts w (List.mem_cons_of_mem _ h)
  have hown : s.vm.findClass R_Ts = some m.cls := findClass_of_methodNamed B.named
  have hlocks := B.notSynchronized
  subst hsz
  have hD := hD0
  generalize hAe : (fun _ : Nat => True) = A at hD
  have hA : ∀ q : Nat, s.heap.size ≤ q → A q := fun q h => by rw [← hAe]; trivial
  have hSE : va_S (fun _ => False) s.heap s.heap [] := va_S.rf
  have hS : va_S A s.heap s.heap [] := va_S.rf
  have hP : va_P G.1 nn_cls [] s.heap := hP
  have hl := lv_entry ([.int x]) (n := 1) (Nat.le_of_ble_eq_true rfl)
  rw [lg_entry_eq]
  generalize (lg_sl ([.int x]) ++ List.replicate (1 - (lg_sl ([.int x])).length) Slot.unset).toArray = ls at hl ⊢
  have hl : lv_has ls 1 [(0, .int x)] := hl
  refine lv_iload_n hx hb d_Ts_isDigit_0 rfl (lv_at hl 0 rfl) ?_
  refine lv_bipush (v := 48) hx hb d_Ts_isDigit_1 (by decide) ?_
  refine lv_icmp_lt (tgt := 16) hx hb d_Ts_isDigit_3 rfl (fun hc3 => ?_) (fun hc3 => ?_)
  · skip
    refine lv_iconst (v := 0) hx hb d_Ts_isDigit_16 (by decide) ?_
    exact W.zret (v := 0) hx hb hr (by first | rfl | rfl) (fun t ht hW => ⟨0, rfl, trivial, ht⟩) (fun q h => by cases h) d_Ts_isDigit_17
  · skip
    refine lv_iload_n hx hb d_Ts_isDigit_6 rfl (lv_at hl 0 rfl) ?_
    refine lv_bipush (v := 57) hx hb d_Ts_isDigit_7 (by decide) ?_
    refine lv_icmp_gt (tgt := 16) hx hb d_Ts_isDigit_9 rfl (fun hc9 => ?_) (fun hc9 => ?_)
    · skip
      refine lv_iconst (v := 0) hx hb d_Ts_isDigit_16 (by decide) ?_
      exact W.zret (v := 0) hx hb hr (by first | rfl | rfl) (fun t ht hW => ⟨0, rfl, trivial, ht⟩) (fun q h => by cases h) d_Ts_isDigit_17
    · skip
      refine lv_iconst (v := 1) hx hb d_Ts_isDigit_12 (by decide) ?_
      refine lv_goto (tgt := 17) hx hb d_Ts_isDigit_13 rfl ?_
      exact W.zret (v := 1) hx hb hr (by first | rfl | rfl) (fun t ht hW => ⟨1, rfl, trivial, ht⟩) (fun q h => by cases h) d_Ts_isDigit_17

theorem mw_89 : (.initialized R_Ts : Cond) ∈ nn_gw := nn_at 89 (by decide +kernel) (by decide +kernel)
theorem mw_419 : (.methodLink R_Ts 60 y_Ts_isDigit : Cond) ∈ nn_gw := nn_at 419 (by decide +kernel) (by decide +kernel)
theorem mw_420 : (.static y_Ts_isDigit : Cond) ∈ nn_gw := nn_at 420 (by decide +kernel) (by decide +kernel)
theorem mw_421 : (.code y_Ts_isDigit b_Ts_isDigit 1 (some .boolean) : Cond) ∈ nn_gw := nn_at 421 (by decide +kernel) (by decide +kernel)
theorem d_Ts_valueOf_0 : decode b_Ts_valueOf 0 = .ok (.iconst 0, 1) := by decide +kernel
theorem d_Ts_valueOf_1 : decode b_Ts_valueOf 1 = .ok (.istore_n 3, 1) := by decide +kernel
theorem d_Ts_valueOf_2 : decode b_Ts_valueOf 2 = .ok (.iload_n 1, 1) := by decide +kernel
theorem d_Ts_valueOf_3 : decode b_Ts_valueOf 3 = .ok (.istore 4, 2) := by decide +kernel
theorem d_Ts_valueOf_5 : decode b_Ts_valueOf 5 = .ok (.iload 4, 2) := by decide +kernel
theorem d_Ts_valueOf_7 : decode b_Ts_valueOf 7 = .ok (.iload_n 2, 1) := by decide +kernel
theorem d_Ts_valueOf_8 : decode b_Ts_valueOf 8 = .ok (.if_icmp .ge 47, 3) := by decide +kernel
theorem d_Ts_valueOf_11 : decode b_Ts_valueOf 11 = .ok (.aload_n 0, 1) := by decide +kernel
theorem d_Ts_valueOf_12 : decode b_Ts_valueOf 12 = .ok (.iload 4, 2) := by decide +kernel
theorem d_Ts_valueOf_14 : decode b_Ts_valueOf 14 = .ok (.caload, 1) := by decide +kernel
theorem d_Ts_valueOf_15 : decode b_Ts_valueOf 15 = .ok (.invokestatic 60, 3) := by decide +kernel
theorem d_Ts_valueOf_18 : decode b_Ts_valueOf 18 = .ok (.ifCond .eq 19, 3) := by decide +kernel
theorem d_Ts_valueOf_21 : decode b_Ts_valueOf 21 = .ok (.iload_n 3, 1) := by decide +kernel
theorem d_Ts_valueOf_22 : decode b_Ts_valueOf 22 = .ok (.bipush 10, 2) := by decide +kernel
theorem d_Ts_valueOf_24 : decode b_Ts_valueOf 24 = .ok (.imul, 1) := by decide +kernel
theorem d_Ts_valueOf_25 : decode b_Ts_valueOf 25 = .ok (.aload_n 0, 1) := by decide +kernel
theorem d_Ts_valueOf_26 : decode b_Ts_valueOf 26 = .ok (.iload 4, 2) := by decide +kernel
theorem d_Ts_valueOf_28 : decode b_Ts_valueOf 28 = .ok (.caload, 1) := by decide +kernel
theorem d_Ts_valueOf_29 : decode b_Ts_valueOf 29 = .ok (.iadd, 1) := by decide +kernel
theorem d_Ts_valueOf_30 : decode b_Ts_valueOf 30 = .ok (.bipush 48, 2) := by decide +kernel
theorem d_Ts_valueOf_32 : decode b_Ts_valueOf 32 = .ok (.isub, 1) := by decide +kernel
theorem d_Ts_valueOf_33 : decode b_Ts_valueOf 33 = .ok (.istore_n 3, 1) := by decide +kernel
theorem d_Ts_valueOf_34 : decode b_Ts_valueOf 34 = .ok (.goto 15, 3) := by decide +kernel
theorem d_Ts_valueOf_37 : decode b_Ts_valueOf 37 = .ok (.iload_n 3, 1) := by decide +kernel
theorem d_Ts_valueOf_38 : decode b_Ts_valueOf 38 = .ok (.iconst 5, 1) := by decide +kernel
theorem d_Ts_valueOf_39 : decode b_Ts_valueOf 39 = .ok (.ishl, 1) := by decide +kernel
theorem d_Ts_valueOf_40 : decode b_Ts_valueOf 40 = .ok (.aload_n 0, 1) := by decide +kernel
theorem d_Ts_valueOf_41 : decode b_Ts_valueOf 41 = .ok (.iload 4, 2) := by decide +kernel
theorem d_Ts_valueOf_43 : decode b_Ts_valueOf 43 = .ok (.caload, 1) := by decide +kernel
theorem d_Ts_valueOf_44 : decode b_Ts_valueOf 44 = .ok (.bipush 31, 2) := by decide +kernel
theorem d_Ts_valueOf_46 : decode b_Ts_valueOf 46 = .ok (.iand, 1) := by decide +kernel
theorem d_Ts_valueOf_47 : decode b_Ts_valueOf 47 = .ok (.ior, 1) := by decide +kernel
theorem d_Ts_valueOf_48 : decode b_Ts_valueOf 48 = .ok (.istore_n 3, 1) := by decide +kernel
theorem d_Ts_valueOf_49 : decode b_Ts_valueOf 49 = .ok (.iinc 4 1, 3) := by decide +kernel
theorem d_Ts_valueOf_52 : decode b_Ts_valueOf 52 = .ok (.goto (-47), 3) := by decide +kernel
theorem d_Ts_valueOf_55 : decode b_Ts_valueOf 55 = .ok (.iload_n 3, 1) := by decide +kernel
theorem d_Ts_valueOf_56 : decode b_Ts_valueOf 56 = .ok (.ireturn, 1) := by decide +kernel

set_option maxHeartbeats 4000000 in
set_option maxRecDepth 100000 in
theorem k_valueOf (l : Launch) (G : nn_G) (tk : Nat → Nat) (sz : Nat) (tx : Nat) (tf : Nat → Int32) (a b : Nat) (hab : a < b) (hb8 : b ≤ 180) : Met l y_Ts_valueOf w_Ts_valueOf ({ frames := 1, cells := 0, slots := 0, locals := 20 }) (nz_PR G tk [.ref tx, .int (nI a), .int (nI b)] [(tx, .inl (G.2 1, 180, .inl (tf)))] sz) (vp_Si (fun r => True)) 0 0 (fun _ => False) := by
  refine Met.ofW (cc := b_Ts_valueOf) (maxL := 5) (ret := some .int) (by decide) rfl ?_
  intro p e s m args below meth c s₁ B hml hv
  obtain ⟨rfl, ⟨hsz, hP, hK, hD0, hN⟩, hE⟩ := hv
  have hx := B.exec
  have hb := B.bytes
  have hr := B.returns
  have hts := atoms_spec (ws := w_Ts_valueOf) B.pre
  have hg : ∀ w ∈ nn_gw, w.before _ s = true := fun w h => hts w (List.mem_cons_of_mem _ h)
  have hown : s.vm.findClass R_Ts = some m.cls := findClass_of_methodNamed B.named
  have hlocks := B.notSynchronized
  subst hsz
  have hD := hD0
  generalize hAe : (fun _ : Nat => True) = A at hD
  have hA : ∀ q : Nat, s.heap.size ≤ q → A q := fun q h => by rw [← hAe]; trivial
  have hSE : va_S (fun _ => False) s.heap s.heap [] := va_S.rf
  have hS : va_S A s.heap s.heap [] := va_S.rf
  have hP : va_P G.1 nn_cls [(tx, .inl (G.2 1, 180, .inl (tf)))] s.heap := hP
  have hl := lv_entry ([.ref tx, .int (nI a), .int (nI b)]) (n := 5) (Nat.le_of_ble_eq_true rfl)
  rw [lg_entry_eq]
  generalize (lg_sl ([.ref tx, .int (nI a), .int (nI b)]) ++ List.replicate (5 - (lg_sl ([.ref tx, .int (nI a), .int (nI b)])).length) Slot.unset).toArray = ls at hl ⊢
  have hl : lv_has ls 5 [(0, .ref tx), (1, .int (nI a)), (2, .int (nI b))] := hl
  refine lv_iconst (v := 0) hx hb d_Ts_valueOf_0 (by decide) ?_
  refine lv_istore_n (lv' := [(3, .int 0), (0, .ref tx), (1, .int (nI a)), (2, .int (nI b))]) hx hb d_Ts_valueOf_1 rfl hl (by decide) rfl (fun ls hl => ?_)
  refine lv_iload_n hx hb d_Ts_valueOf_2 rfl (lv_at hl 2 rfl) ?_
  refine lv_istore (lv' := [(4, .int (nI a)), (3, .int 0), (0, .ref tx), (1, .int (nI a)), (2, .int (nI b))]) hx hb d_Ts_valueOf_3 hl (by decide) rfl (fun ls hl => ?_)
  have hl := lv_sub (l' := [(4, .int (nI a)), (3, .int 0), (0, .ref tx), (1, .int (nI a)), (2, .int (nI b))]) hl [0, 1, 2, 3, 4] rfl
  suffices loop : ∀ (j : Nat) (i : Nat) (x : Int32) (ls : Array Slot), i + j = b → lv_has ls 5 [(4, .int (nI i)), (3, .int x), (0, .ref tx), (1, .int (nI a)), (2, .int (nI b))] → W p l e (headSpec w_Ts_valueOf ({ frames := 1, cells := 0, slots := 0, locals := 20 })).room s m [.ref tx, .int (nI a), .int (nI b)].toArray below meth c s.heap [] 0 0 (MQ below (vp_Si (fun r => True)) [.ref tx, .int (nI a), .int (nI b)].toArray s 0 0 (fun _ => False)) (F0 m 5 ls []) by
    exact loop (b - a) a _ ls (by omega) hl
  intro j
  induction j with
  | zero =>
    intro i x ls hij hl
    refine lv_iload hx hb d_Ts_valueOf_5 (lv_at hl 0 rfl) ?_
    refine lv_iload_n hx hb d_Ts_valueOf_7 rfl (lv_at hl 4 rfl) ?_
    refine lv_icmp_ge (tgt := 55) hx hb d_Ts_valueOf_8 rfl (fun _ => ?_) (fun h => absurd (nI_le (by omega) (by omega)) h)
    refine lv_iload_n hx hb d_Ts_valueOf_55 rfl (lv_at hl 1 rfl) ?_
    exact W.iret (v := x) hx hb hr (fun t ht hW => ⟨x, rfl, trivial, ht⟩) (fun q h => by cases h) d_Ts_valueOf_56
  | succ j ih =>
    intro i x ls hij hl
    refine lv_iload hx hb d_Ts_valueOf_5 (lv_at hl 0 rfl) ?_
    refine lv_iload_n hx hb d_Ts_valueOf_7 rfl (lv_at hl 4 rfl) ?_
    refine lv_icmp_ge (tgt := 55) hx hb d_Ts_valueOf_8 rfl (fun h => absurd h (nI_ge (by omega) (by omega))) (fun _ => ?_)
    refine lv_aload_n hx hb d_Ts_valueOf_11 rfl (lv_at hl 2 rfl) ?_
    refine lv_iload hx hb d_Ts_valueOf_12 (lv_at hl 0 rfl) ?_
    refine va_cald hx hb hK hP 0 1 rfl rfl (vp_in_nI (by omega) (by decide)) d_Ts_valueOf_14 ?_
    have hPc := hP.sub (ws' := []) [] rfl
    have hDc := hD.sub (ws' := []) [] (by decide) rfl
    refine vp_callSi (va_Run.run (va_runS (As := [.int ((tf) (nI i).toNatClampNeg)]) (rest := []) ⟨hx, hb, hml, hown, hts⟩ (k_isDigit l G tk _ ((tf) (nI i).toNatClampNeg)) (va_cwS 1 hts (nn_gS mw_421 mw_419 mw_420 mw_89) rfl rfl rfl (by decide +kernel) ⟨Nat.le_of_ble_eq_true rfl, Nat.le_of_ble_eq_true rfl⟩) (nz_preSR hPc hDc hK hN hE hSE) rfl rfl hl.1 rfl (lv_room (Nat.le_of_ble_eq_true rfl)) d_Ts_valueOf_15 ⟨(Nat.le_of_ble_eq_true rfl), (Nat.le_of_ble_eq_true rfl)⟩)) (fun r1 er1 => ?_)
    refine lv_if_eq (tgt := 37) hx hb d_Ts_valueOf_18 rfl (fun hc18 => ?_) (fun hc18 => ?_)
    · skip
      refine lv_iload_n hx hb d_Ts_valueOf_37 rfl (lv_at hl 1 rfl) ?_
      refine lv_iconst (v := 5) hx hb d_Ts_valueOf_38 (by decide) ?_
      refine lv_ishl hx hb d_Ts_valueOf_39 ?_
      refine lv_aload_n hx hb d_Ts_valueOf_40 rfl (lv_at hl 2 rfl) ?_
      refine lv_iload hx hb d_Ts_valueOf_41 (lv_at hl 0 rfl) ?_
      refine va_cald hx hb hK hP 0 1 rfl rfl (vp_in_nI (by omega) (by decide)) d_Ts_valueOf_43 ?_
      refine lv_bipush (v := 31) hx hb d_Ts_valueOf_44 (by decide) ?_
      refine lv_iand hx hb d_Ts_valueOf_46 ?_
      refine lv_ior hx hb d_Ts_valueOf_47 ?_
      refine lv_istore_n (lv' := [(3, .int ((x <<< (5 &&& 31)) ||| (((tf) (nI i).toNatClampNeg) &&& 31))), (4, .int (nI i)), (0, .ref tx), (1, .int (nI a)), (2, .int (nI b))]) hx hb d_Ts_valueOf_48 rfl hl (by decide) rfl (fun ls hl => ?_)
      refine lv_iinc (k := 1) (v := nI (i + 1)) (lv' := [(4, .int (nI (i + 1))), (3, .int ((x <<< (5 &&& 31)) ||| (((tf) (nI i).toNatClampNeg) &&& 31))), (0, .ref tx), (1, .int (nI a)), (2, .int (nI b))]) hx hb d_Ts_valueOf_49 hl rfl ((nI_succ i).symm) (by decide) rfl (fun ls hl => ?_)
      refine lv_goto (tgt := 5) hx hb d_Ts_valueOf_52 rfl ?_
      have hl := lv_sub (l' := [(4, .int (nI (i + 1))), (3, .int ((x <<< (5 &&& 31)) ||| (((tf) (nI i).toNatClampNeg) &&& 31))), (0, .ref tx), (1, .int (nI a)), (2, .int (nI b))]) hl [0, 1, 2, 3, 4] rfl
      exact ih (i + 1) _ ls (by omega) hl
    · skip
      refine lv_iload_n hx hb d_Ts_valueOf_21 rfl (lv_at hl 1 rfl) ?_
      refine lv_bipush (v := 10) hx hb d_Ts_valueOf_22 (by decide) ?_
      refine lv_imul hx hb d_Ts_valueOf_24 ?_
      refine lv_aload_n hx hb d_Ts_valueOf_25 rfl (lv_at hl 2 rfl) ?_
      refine lv_iload hx hb d_Ts_valueOf_26 (lv_at hl 0 rfl) ?_
      refine va_cald hx hb hK hP 0 1 rfl rfl (vp_in_nI (by omega) (by decide)) d_Ts_valueOf_28 ?_
      refine lv_iadd hx hb d_Ts_valueOf_29 ?_
      refine lv_bipush (v := 48) hx hb d_Ts_valueOf_30 (by decide) ?_
      refine lv_isub hx hb d_Ts_valueOf_32 ?_
      refine lv_istore_n (lv' := [(3, .int (((x * 10) + ((tf) (nI i).toNatClampNeg)) - 48)), (4, .int (nI i)), (0, .ref tx), (1, .int (nI a)), (2, .int (nI b))]) hx hb d_Ts_valueOf_33 rfl hl (by decide) rfl (fun ls hl => ?_)
      refine lv_goto (tgt := 49) hx hb d_Ts_valueOf_34 rfl ?_
      refine lv_iinc (k := 1) (v := nI (i + 1)) (lv' := [(4, .int (nI (i + 1))), (3, .int (((x * 10) + ((tf) (nI i).toNatClampNeg)) - 48)), (0, .ref tx), (1, .int (nI a)), (2, .int (nI b))]) hx hb d_Ts_valueOf_49 hl rfl ((nI_succ i).symm) (by decide) rfl (fun ls hl => ?_)
      refine lv_goto (tgt := 5) hx hb d_Ts_valueOf_52 rfl ?_
      have hl := lv_sub (l' := [(4, .int (nI (i + 1))), (3, .int (((x * 10) + ((tf) (nI i).toNatClampNeg)) - 48)), (0, .ref tx), (1, .int (nI a)), (2, .int (nI b))]) hl [0, 1, 2, 3, 4] rfl
      exact ih (i + 1) _ ls (by omega) hl

theorem mw_416 : (.methodLink R_Ts 56 y_Ts_isLetter : Cond) ∈ nn_gw := nn_at 416 (by decide +kernel) (by decide +kernel)
theorem mw_417 : (.static y_Ts_isLetter : Cond) ∈ nn_gw := nn_at 417 (by decide +kernel) (by decide +kernel)
theorem mw_418 : (.code y_Ts_isLetter b_Ts_isLetter 1 (some .boolean) : Cond) ∈ nn_gw := nn_at 418 (by decide +kernel) (by decide +kernel)
theorem mw_425 : (.fieldLink R_Ts 63 R_To "NUMBER" "LNestPascal$Token;" : Cond) ∈ nn_gw := nn_at 425 (by decide +kernel) (by decide +kernel)
theorem mw_427 : (.fieldLink R_Ts 66 R_To "NO_TOKEN" "LNestPascal$Token;" : Cond) ∈ nn_gw := nn_at 427 (by decide +kernel) (by decide +kernel)
theorem mw_429 : (.methodLink R_Ts 69 y_To_spelled : Cond) ∈ nn_gw := nn_at 429 (by decide +kernel) (by decide +kernel)
theorem mw_430 : (.static y_To_spelled : Cond) ∈ nn_gw := nn_at 430 (by decide +kernel) (by decide +kernel)
theorem mw_431 : (.code y_To_spelled b_To_spelled 4 (some (.object "NestPascal$Token")) : Cond) ∈ nn_gw := nn_at 431 (by decide +kernel) (by decide +kernel)
theorem mw_488 : (.fieldLink R_Ts 72 R_To "NAME" "LNestPascal$Token;" : Cond) ∈ nn_gw := nn_at 488 (by decide +kernel) (by decide +kernel)
theorem d_Ts_kindOf_0 : decode b_Ts_kindOf 0 = .ok (.aload_n 0, 1) := by decide +kernel
theorem d_Ts_kindOf_1 : decode b_Ts_kindOf 1 = .ok (.iload_n 1, 1) := by decide +kernel
theorem d_Ts_kindOf_2 : decode b_Ts_kindOf 2 = .ok (.caload, 1) := by decide +kernel
theorem d_Ts_kindOf_3 : decode b_Ts_kindOf 3 = .ok (.invokestatic 60, 3) := by decide +kernel
theorem d_Ts_kindOf_6 : decode b_Ts_kindOf 6 = .ok (.ifCond .eq 20, 3) := by decide +kernel
theorem d_Ts_kindOf_9 : decode b_Ts_kindOf 9 = .ok (.iload_n 2, 1) := by decide +kernel
theorem d_Ts_kindOf_10 : decode b_Ts_kindOf 10 = .ok (.iload_n 1, 1) := by decide +kernel
theorem d_Ts_kindOf_11 : decode b_Ts_kindOf 11 = .ok (.isub, 1) := by decide +kernel
theorem d_Ts_kindOf_12 : decode b_Ts_kindOf 12 = .ok (.iconst 4, 1) := by decide +kernel
theorem d_Ts_kindOf_13 : decode b_Ts_kindOf 13 = .ok (.if_icmp .gt 9, 3) := by decide +kernel
theorem d_Ts_kindOf_16 : decode b_Ts_kindOf 16 = .ok (.getstatic 63, 3) := by decide +kernel
theorem d_Ts_kindOf_19 : decode b_Ts_kindOf 19 = .ok (.goto 6, 3) := by decide +kernel
theorem d_Ts_kindOf_22 : decode b_Ts_kindOf 22 = .ok (.getstatic 66, 3) := by decide +kernel
theorem d_Ts_kindOf_25 : decode b_Ts_kindOf 25 = .ok (.areturn, 1) := by decide +kernel
theorem d_Ts_kindOf_26 : decode b_Ts_kindOf 26 = .ok (.aload_n 0, 1) := by decide +kernel
theorem d_Ts_kindOf_27 : decode b_Ts_kindOf 27 = .ok (.iload_n 1, 1) := by decide +kernel
theorem d_Ts_kindOf_28 : decode b_Ts_kindOf 28 = .ok (.iload_n 2, 1) := by decide +kernel
theorem d_Ts_kindOf_29 : decode b_Ts_kindOf 29 = .ok (.invokestatic 69, 3) := by decide +kernel
theorem d_Ts_kindOf_32 : decode b_Ts_kindOf 32 = .ok (.astore_n 3, 1) := by decide +kernel
theorem d_Ts_kindOf_33 : decode b_Ts_kindOf 33 = .ok (.aload_n 3, 1) := by decide +kernel
theorem d_Ts_kindOf_34 : decode b_Ts_kindOf 34 = .ok (.getstatic 66, 3) := by decide +kernel
theorem d_Ts_kindOf_37 : decode b_Ts_kindOf 37 = .ok (.if_acmp .ne 24, 3) := by decide +kernel
theorem d_Ts_kindOf_40 : decode b_Ts_kindOf 40 = .ok (.aload_n 0, 1) := by decide +kernel
theorem d_Ts_kindOf_41 : decode b_Ts_kindOf 41 = .ok (.iload_n 1, 1) := by decide +kernel
theorem d_Ts_kindOf_42 : decode b_Ts_kindOf 42 = .ok (.caload, 1) := by decide +kernel
theorem d_Ts_kindOf_43 : decode b_Ts_kindOf 43 = .ok (.invokestatic 56, 3) := by decide +kernel
theorem d_Ts_kindOf_46 : decode b_Ts_kindOf 46 = .ok (.ifCond .eq 15, 3) := by decide +kernel
theorem d_Ts_kindOf_49 : decode b_Ts_kindOf 49 = .ok (.iload_n 2, 1) := by decide +kernel
theorem d_Ts_kindOf_50 : decode b_Ts_kindOf 50 = .ok (.iload_n 1, 1) := by decide +kernel
theorem d_Ts_kindOf_51 : decode b_Ts_kindOf 51 = .ok (.isub, 1) := by decide +kernel
theorem d_Ts_kindOf_52 : decode b_Ts_kindOf 52 = .ok (.bipush 6, 2) := by decide +kernel
theorem d_Ts_kindOf_54 : decode b_Ts_kindOf 54 = .ok (.if_icmp .gt 7, 3) := by decide +kernel
theorem d_Ts_kindOf_57 : decode b_Ts_kindOf 57 = .ok (.getstatic 72, 3) := by decide +kernel
theorem d_Ts_kindOf_60 : decode b_Ts_kindOf 60 = .ok (.areturn, 1) := by decide +kernel
theorem d_Ts_kindOf_61 : decode b_Ts_kindOf 61 = .ok (.aload_n 3, 1) := by decide +kernel
theorem d_Ts_kindOf_62 : decode b_Ts_kindOf 62 = .ok (.areturn, 1) := by decide +kernel

set_option maxHeartbeats 4000000 in
set_option maxRecDepth 100000 in
theorem k_kindOf (l : Launch) (G : nn_G) (tk : Nat → Nat) (sz : Nat) (tx : Nat) (tf : Nat → Int32) (a b : Nat) (hab : a < b) (hb8 : b ≤ 180) : Met l y_Ts_kindOf w_Ts_kindOf ({ frames := 6, cells := 0, slots := 0, locals := 133 }) (nz_PR G tk [.ref tx, .int (nI a), .int (nI b)] [(tx, .inl (G.2 1, 180, .inl (tf)))] sz) (va_Sr (fun k => k < 31) (fun k => .ref (tk k))) 0 0 (fun _ => False) := by
  refine Met.ofW (cc := b_Ts_kindOf) (maxL := 4) (ret := some (.object "NestPascal$Token")) (by decide) rfl ?_
  intro p e s m args below meth c s₁ B hml hv
  obtain ⟨rfl, ⟨hsz, hP, hK, hD0, hN⟩, hE⟩ := hv
  have hx := B.exec
  have hb := B.bytes
  have hr := B.returns
  have hts := atoms_spec (ws := w_Ts_kindOf) B.pre
  have hg : ∀ w ∈ nn_gw, w.before _ s = true := fun w h => hts w (List.mem_cons_of_mem _ h)
  have hown : s.vm.findClass R_Ts = some m.cls := findClass_of_methodNamed B.named
  have hlocks := B.notSynchronized
  subst hsz
  have hD := hD0
  generalize hAe : (fun _ : Nat => True) = A at hD
  have hA : ∀ q : Nat, s.heap.size ≤ q → A q := fun q h => by rw [← hAe]; trivial
  have hSE : va_S (fun _ => False) s.heap s.heap [] := va_S.rf
  have hS : va_S A s.heap s.heap [] := va_S.rf
  have hP : va_P G.1 nn_cls [(tx, .inl (G.2 1, 180, .inl (tf)))] s.heap := hP
  have hl := lv_entry ([.ref tx, .int (nI a), .int (nI b)]) (n := 4) (Nat.le_of_ble_eq_true rfl)
  rw [lg_entry_eq]
  generalize (lg_sl ([.ref tx, .int (nI a), .int (nI b)]) ++ List.replicate (4 - (lg_sl ([.ref tx, .int (nI a), .int (nI b)])).length) Slot.unset).toArray = ls at hl ⊢
  have hl : lv_has ls 4 [(0, .ref tx), (1, .int (nI a)), (2, .int (nI b))] := hl
  refine lv_aload_n hx hb d_Ts_kindOf_0 rfl (lv_at hl 0 rfl) ?_
  refine lv_iload_n hx hb d_Ts_kindOf_1 rfl (lv_at hl 1 rfl) ?_
  refine va_cald hx hb hK hP 0 1 rfl rfl (vp_in_nI (by omega) (by decide)) d_Ts_kindOf_2 ?_
  have hPc := hP.sub (ws' := []) [] rfl
  have hDc := hD.sub (ws' := []) [] (by decide) rfl
  refine vp_callSi (va_Run.run (va_runS (As := [.int ((tf) (nI a).toNatClampNeg)]) (rest := []) ⟨hx, hb, hml, hown, hts⟩ (k_isDigit l G tk _ ((tf) (nI a).toNatClampNeg)) (va_cwS 1 hts (nn_gS mw_421 mw_419 mw_420 mw_89) rfl rfl rfl (by decide +kernel) ⟨Nat.le_of_ble_eq_true rfl, Nat.le_of_ble_eq_true rfl⟩) (nz_preSR hPc hDc hK hN hE hSE) rfl rfl hl.1 rfl (lv_room (Nat.le_of_ble_eq_true rfl)) d_Ts_kindOf_3 ⟨(Nat.le_of_ble_eq_true rfl), (Nat.le_of_ble_eq_true rfl)⟩)) (fun r1 er1 => ?_)
  refine lv_if_eq (tgt := 26) hx hb d_Ts_kindOf_6 rfl (fun hc6 => ?_) (fun hc6 => ?_)
  · skip
    refine lv_aload_n hx hb d_Ts_kindOf_26 rfl (lv_at hl 0 rfl) ?_
    refine lv_iload_n hx hb d_Ts_kindOf_27 rfl (lv_at hl 1 rfl) ?_
    refine lv_iload_n hx hb d_Ts_kindOf_28 rfl (lv_at hl 2 rfl) ?_
    have hPc := hP.sub (ws' := [(tx, .inl (G.2 1, 180, .inl (tf)))]) [0] rfl
    have hDc := hD.sub (ws' := [(tx, .inl (G.2 1, 180, .inl (tf)))]) [0] (by decide) rfl
    refine va_csr (va_Run.run (va_runS (As := [.ref tx, .int (nI a), .int (nI b)]) (rest := []) ⟨hx, hb, hml, hown, hts⟩ (s_spelled l G tk _ tx tf a b (by omega) hb8) (va_cwS 3 hts (nn_gS mw_431 mw_429 mw_430 mw_96) rfl rfl rfl (by decide +kernel) ⟨Nat.le_of_ble_eq_true rfl, Nat.le_of_ble_eq_true rfl⟩) (nz_preSR hPc hDc hK hN hE hSE) rfl rfl hl.1 rfl (lv_room (Nat.le_of_ble_eq_true rfl)) d_Ts_kindOf_29 ⟨(Nat.le_of_ble_eq_true rfl), (Nat.le_of_ble_eq_true rfl)⟩)) (fun r2 er2 => ?_)
    have hr2 : r2 < 31 := er2
    refine lv_astore_n (lv' := [(3, .ref (tk r2)), (0, .ref tx), (1, .int (nI a)), (2, .int (nI b))]) hx hb d_Ts_kindOf_32 rfl hl (by decide) rfl (fun ls hl => ?_)
    refine lv_aload_n hx hb d_Ts_kindOf_33 rfl (lv_at hl 0 rfl) ?_
    refine va_gets hx hb (hE.2.1 30 (by decide)).1 hSE hown (hg _ mw_427) (fun _ h9 => h9) d_Ts_kindOf_34 ?_
    refine lv_acmp_ne (rx := some (tk r2)) (ry := some (tk 30)) (tgt := 61) hx hb d_Ts_kindOf_37 rfl (fun hc37 => ?_) (fun hc37 => ?_)
    · skip
      refine lv_aload_n hx hb d_Ts_kindOf_61 rfl (lv_at hl 0 rfl) ?_
      exact W.aret (v := .ref (tk r2)) hx hb hr (Or.inl ⟨_, rfl⟩) (Or.inr ⟨_, rfl⟩) (fun t ht hW => ⟨r2, rfl, hr2, ht⟩) (fun q h => by cases h) d_Ts_kindOf_62
    · skip
      refine lv_aload_n hx hb d_Ts_kindOf_40 rfl (lv_at hl 1 rfl) ?_
      refine lv_iload_n hx hb d_Ts_kindOf_41 rfl (lv_at hl 2 rfl) ?_
      refine va_cald hx hb hK hP 0 1 rfl rfl (vp_in_nI (by omega) (by decide)) d_Ts_kindOf_42 ?_
      have hPc := hP.sub (ws' := []) [] rfl
      have hDc := hD.sub (ws' := []) [] (by decide) rfl
      refine vp_callSi (va_Run.run (va_runS (As := [.int ((tf) (nI a).toNatClampNeg)]) (rest := []) ⟨hx, hb, hml, hown, hts⟩ (k_isLetter l G tk _ ((tf) (nI a).toNatClampNeg)) (va_cwS 1 hts (nn_gS mw_418 mw_416 mw_417 mw_89) rfl rfl rfl (by decide +kernel) ⟨Nat.le_of_ble_eq_true rfl, Nat.le_of_ble_eq_true rfl⟩) (nz_preSR hPc hDc hK hN hE hSE) rfl rfl hl.1 rfl (lv_room (Nat.le_of_ble_eq_true rfl)) d_Ts_kindOf_43 ⟨(Nat.le_of_ble_eq_true rfl), (Nat.le_of_ble_eq_true rfl)⟩)) (fun r3 er3 => ?_)
      refine lv_if_eq (tgt := 61) hx hb d_Ts_kindOf_46 rfl (fun hc46 => ?_) (fun hc46 => ?_)
      · skip
        refine lv_aload_n hx hb d_Ts_kindOf_61 rfl (lv_at hl 0 rfl) ?_
        exact W.aret (v := .ref (tk r2)) hx hb hr (Or.inl ⟨_, rfl⟩) (Or.inr ⟨_, rfl⟩) (fun t ht hW => ⟨r2, rfl, hr2, ht⟩) (fun q h => by cases h) d_Ts_kindOf_62
      · skip
        refine lv_iload_n hx hb d_Ts_kindOf_49 rfl (lv_at hl 3 rfl) ?_
        refine lv_iload_n hx hb d_Ts_kindOf_50 rfl (lv_at hl 2 rfl) ?_
        refine lv_isub hx hb d_Ts_kindOf_51 ?_
        refine lv_bipush (v := 6) hx hb d_Ts_kindOf_52 (by decide) ?_
        refine lv_icmp_gt (tgt := 61) hx hb d_Ts_kindOf_54 rfl (fun hc54 => ?_) (fun hc54 => ?_)
        · skip
          refine lv_aload_n hx hb d_Ts_kindOf_61 rfl (lv_at hl 0 rfl) ?_
          exact W.aret (v := .ref (tk r2)) hx hb hr (Or.inl ⟨_, rfl⟩) (Or.inr ⟨_, rfl⟩) (fun t ht hW => ⟨r2, rfl, hr2, ht⟩) (fun q h => by cases h) d_Ts_kindOf_62
        · skip
          refine va_gets hx hb (hE.2.1 27 (by decide)).1 hSE hown (hg _ mw_488) (fun _ h9 => h9) d_Ts_kindOf_57 ?_
          exact W.aret (v := .ref (tk 27)) hx hb hr (Or.inl ⟨_, rfl⟩) (Or.inr ⟨_, rfl⟩) (fun t ht hW => ⟨27, rfl, (by decide), ht⟩) (fun q h => by cases h) d_Ts_kindOf_60
  · skip
    refine lv_iload_n hx hb d_Ts_kindOf_9 rfl (lv_at hl 2 rfl) ?_
    refine lv_iload_n hx hb d_Ts_kindOf_10 rfl (lv_at hl 1 rfl) ?_
    refine lv_isub hx hb d_Ts_kindOf_11 ?_
    refine lv_iconst (v := 4) hx hb d_Ts_kindOf_12 (by decide) ?_
    refine lv_icmp_gt (tgt := 22) hx hb d_Ts_kindOf_13 rfl (fun hc13 => ?_) (fun hc13 => ?_)
    · skip
      refine va_gets hx hb (hE.2.1 30 (by decide)).1 hSE hown (hg _ mw_427) (fun _ h9 => h9) d_Ts_kindOf_22 ?_
      exact W.aret (v := .ref (tk 30)) hx hb hr (Or.inl ⟨_, rfl⟩) (Or.inr ⟨_, rfl⟩) (fun t ht hW => ⟨30, rfl, (by decide), ht⟩) (fun q h => by cases h) d_Ts_kindOf_25
    · skip
      refine va_gets hx hb (hE.2.1 28 (by decide)).1 hSE hown (hg _ mw_425) (fun _ h9 => h9) d_Ts_kindOf_16 ?_
      refine lv_goto (tgt := 25) hx hb d_Ts_kindOf_19 rfl ?_
      exact W.aret (v := .ref (tk 28)) hx hb hr (Or.inl ⟨_, rfl⟩) (Or.inr ⟨_, rfl⟩) (fun t ht hW => ⟨28, rfl, (by decide), ht⟩) (fun q h => by cases h) d_Ts_kindOf_25

theorem d_Ts_endOfToken_0 : decode b_Ts_endOfToken 0 = .ok (.iload_n 1, 1) := by decide +kernel
theorem d_Ts_endOfToken_1 : decode b_Ts_endOfToken 1 = .ok (.iconst 1, 1) := by decide +kernel
theorem d_Ts_endOfToken_2 : decode b_Ts_endOfToken 2 = .ok (.iadd, 1) := by decide +kernel
theorem d_Ts_endOfToken_3 : decode b_Ts_endOfToken 3 = .ok (.istore_n 3, 1) := by decide +kernel
theorem d_Ts_endOfToken_4 : decode b_Ts_endOfToken 4 = .ok (.aload_n 0, 1) := by decide +kernel
theorem d_Ts_endOfToken_5 : decode b_Ts_endOfToken 5 = .ok (.iload_n 1, 1) := by decide +kernel
theorem d_Ts_endOfToken_6 : decode b_Ts_endOfToken 6 = .ok (.caload, 1) := by decide +kernel
theorem d_Ts_endOfToken_7 : decode b_Ts_endOfToken 7 = .ok (.invokestatic 56, 3) := by decide +kernel
theorem d_Ts_endOfToken_10 : decode b_Ts_endOfToken 10 = .ok (.ifCond .eq 23, 3) := by decide +kernel
theorem d_Ts_endOfToken_13 : decode b_Ts_endOfToken 13 = .ok (.iload_n 3, 1) := by decide +kernel
theorem d_Ts_endOfToken_14 : decode b_Ts_endOfToken 14 = .ok (.iload_n 2, 1) := by decide +kernel
theorem d_Ts_endOfToken_15 : decode b_Ts_endOfToken 15 = .ok (.if_icmp .ge 71, 3) := by decide +kernel
theorem d_Ts_endOfToken_18 : decode b_Ts_endOfToken 18 = .ok (.aload_n 0, 1) := by decide +kernel
theorem d_Ts_endOfToken_19 : decode b_Ts_endOfToken 19 = .ok (.iload_n 3, 1) := by decide +kernel
theorem d_Ts_endOfToken_20 : decode b_Ts_endOfToken 20 = .ok (.caload, 1) := by decide +kernel
theorem d_Ts_endOfToken_21 : decode b_Ts_endOfToken 21 = .ok (.invokestatic 56, 3) := by decide +kernel
theorem d_Ts_endOfToken_24 : decode b_Ts_endOfToken 24 = .ok (.ifCond .eq 62, 3) := by decide +kernel
theorem d_Ts_endOfToken_27 : decode b_Ts_endOfToken 27 = .ok (.iinc 3 1, 3) := by decide +kernel
theorem d_Ts_endOfToken_30 : decode b_Ts_endOfToken 30 = .ok (.goto (-17), 3) := by decide +kernel
theorem d_Ts_endOfToken_33 : decode b_Ts_endOfToken 33 = .ok (.aload_n 0, 1) := by decide +kernel
theorem d_Ts_endOfToken_34 : decode b_Ts_endOfToken 34 = .ok (.iload_n 1, 1) := by decide +kernel
theorem d_Ts_endOfToken_35 : decode b_Ts_endOfToken 35 = .ok (.caload, 1) := by decide +kernel
theorem d_Ts_endOfToken_36 : decode b_Ts_endOfToken 36 = .ok (.invokestatic 60, 3) := by decide +kernel
theorem d_Ts_endOfToken_39 : decode b_Ts_endOfToken 39 = .ok (.ifCond .eq 23, 3) := by decide +kernel
theorem d_Ts_endOfToken_42 : decode b_Ts_endOfToken 42 = .ok (.iload_n 3, 1) := by decide +kernel
theorem d_Ts_endOfToken_43 : decode b_Ts_endOfToken 43 = .ok (.iload_n 2, 1) := by decide +kernel
theorem d_Ts_endOfToken_44 : decode b_Ts_endOfToken 44 = .ok (.if_icmp .ge 42, 3) := by decide +kernel
theorem d_Ts_endOfToken_47 : decode b_Ts_endOfToken 47 = .ok (.aload_n 0, 1) := by decide +kernel
theorem d_Ts_endOfToken_48 : decode b_Ts_endOfToken 48 = .ok (.iload_n 3, 1) := by decide +kernel
theorem d_Ts_endOfToken_49 : decode b_Ts_endOfToken 49 = .ok (.caload, 1) := by decide +kernel
theorem d_Ts_endOfToken_50 : decode b_Ts_endOfToken 50 = .ok (.invokestatic 60, 3) := by decide +kernel
theorem d_Ts_endOfToken_53 : decode b_Ts_endOfToken 53 = .ok (.ifCond .eq 33, 3) := by decide +kernel
theorem d_Ts_endOfToken_56 : decode b_Ts_endOfToken 56 = .ok (.iinc 3 1, 3) := by decide +kernel
theorem d_Ts_endOfToken_59 : decode b_Ts_endOfToken 59 = .ok (.goto (-17), 3) := by decide +kernel
theorem d_Ts_endOfToken_62 : decode b_Ts_endOfToken 62 = .ok (.aload_n 0, 1) := by decide +kernel
theorem d_Ts_endOfToken_63 : decode b_Ts_endOfToken 63 = .ok (.iload_n 1, 1) := by decide +kernel
theorem d_Ts_endOfToken_64 : decode b_Ts_endOfToken 64 = .ok (.caload, 1) := by decide +kernel
theorem d_Ts_endOfToken_65 : decode b_Ts_endOfToken 65 = .ok (.bipush 58, 2) := by decide +kernel
theorem d_Ts_endOfToken_67 : decode b_Ts_endOfToken 67 = .ok (.if_icmp .ne 19, 3) := by decide +kernel
theorem d_Ts_endOfToken_70 : decode b_Ts_endOfToken 70 = .ok (.iload_n 3, 1) := by decide +kernel
theorem d_Ts_endOfToken_71 : decode b_Ts_endOfToken 71 = .ok (.iload_n 2, 1) := by decide +kernel
theorem d_Ts_endOfToken_72 : decode b_Ts_endOfToken 72 = .ok (.if_icmp .ge 14, 3) := by decide +kernel
theorem d_Ts_endOfToken_75 : decode b_Ts_endOfToken 75 = .ok (.aload_n 0, 1) := by decide +kernel
theorem d_Ts_endOfToken_76 : decode b_Ts_endOfToken 76 = .ok (.iload_n 3, 1) := by decide +kernel
theorem d_Ts_endOfToken_77 : decode b_Ts_endOfToken 77 = .ok (.caload, 1) := by decide +kernel
theorem d_Ts_endOfToken_78 : decode b_Ts_endOfToken 78 = .ok (.bipush 61, 2) := by decide +kernel
theorem d_Ts_endOfToken_80 : decode b_Ts_endOfToken 80 = .ok (.if_icmp .ne 6, 3) := by decide +kernel
theorem d_Ts_endOfToken_83 : decode b_Ts_endOfToken 83 = .ok (.iinc 3 1, 3) := by decide +kernel
theorem d_Ts_endOfToken_86 : decode b_Ts_endOfToken 86 = .ok (.iload_n 3, 1) := by decide +kernel
theorem d_Ts_endOfToken_87 : decode b_Ts_endOfToken 87 = .ok (.ireturn, 1) := by decide +kernel

set_option maxHeartbeats 4000000 in
set_option maxRecDepth 100000 in
theorem k_endOfToken (l : Launch) (G : nn_G) (tk : Nat → Nat) (sz : Nat) (tx : Nat) (tf : Nat → Int32) (a n : Nat) (han : a < n) (hn8 : n ≤ 180) : Met l y_Ts_endOfToken w_Ts_endOfToken ({ frames := 1, cells := 0, slots := 0, locals := 20 }) (nz_PR G tk [.ref tx, .int (nI a), .int (nI n)] [(tx, .inl (G.2 1, 180, .inl (tf)))] sz) (vp_Si (fun r => ∃ e, r = nI e ∧ a < e ∧ e ≤ n)) 0 0 (fun _ => False) := by
  refine Met.ofW (cc := b_Ts_endOfToken) (maxL := 4) (ret := some .int) (by decide) rfl ?_
  intro p e s m args below meth c s₁ B hml hv
  obtain ⟨rfl, ⟨hsz, hP, hK, hD0, hN⟩, hE⟩ := hv
  have hx := B.exec
  have hb := B.bytes
  have hr := B.returns
  have hts := atoms_spec (ws := w_Ts_endOfToken) B.pre
  have hg : ∀ w ∈ nn_gw, w.before _ s = true := fun w h => hts w (List.mem_cons_of_mem _ h)
  have hown : s.vm.findClass R_Ts = some m.cls := findClass_of_methodNamed B.named
  have hlocks := B.notSynchronized
  subst hsz
  have hD := hD0
  generalize hAe : (fun _ : Nat => True) = A at hD
  have hA : ∀ q : Nat, s.heap.size ≤ q → A q := fun q h => by rw [← hAe]; trivial
  have hSE : va_S (fun _ => False) s.heap s.heap [] := va_S.rf
  have hS : va_S A s.heap s.heap [] := va_S.rf
  have hP : va_P G.1 nn_cls [(tx, .inl (G.2 1, 180, .inl (tf)))] s.heap := hP
  have hl := lv_entry ([.ref tx, .int (nI a), .int (nI n)]) (n := 4) (Nat.le_of_ble_eq_true rfl)
  rw [lg_entry_eq]
  generalize (lg_sl ([.ref tx, .int (nI a), .int (nI n)]) ++ List.replicate (4 - (lg_sl ([.ref tx, .int (nI a), .int (nI n)])).length) Slot.unset).toArray = ls at hl ⊢
  have hl : lv_has ls 4 [(0, .ref tx), (1, .int (nI a)), (2, .int (nI n))] := hl
  refine lv_iload_n hx hb d_Ts_endOfToken_0 rfl (lv_at hl 1 rfl) ?_
  refine lv_iconst (v := 1) hx hb d_Ts_endOfToken_1 (by decide) ?_
  refine lv_iadd hx hb d_Ts_endOfToken_2 ?_
  refine nb_top (nI (a + 1)) (nI_1 a) ?_
  refine lv_istore_n (lv' := [(3, .int (nI (a + 1))), (0, .ref tx), (1, .int (nI a)), (2, .int (nI n))]) hx hb d_Ts_endOfToken_3 rfl hl (by decide) rfl (fun ls hl => ?_)
  refine lv_aload_n hx hb d_Ts_endOfToken_4 rfl (lv_at hl 1 rfl) ?_
  refine lv_iload_n hx hb d_Ts_endOfToken_5 rfl (lv_at hl 2 rfl) ?_
  refine va_cald hx hb hK hP 0 1 rfl rfl (vp_in_nI (by omega) (by decide)) d_Ts_endOfToken_6 ?_
  have hPc := hP.sub (ws' := []) [] rfl
  have hDc := hD.sub (ws' := []) [] (by decide) rfl
  refine vp_callSi (va_Run.run (va_runS (As := [.int ((tf) (nI a).toNatClampNeg)]) (rest := []) ⟨hx, hb, hml, hown, hts⟩ (k_isLetter l G tk _ ((tf) (nI a).toNatClampNeg)) (va_cwS 1 hts (nn_gS mw_418 mw_416 mw_417 mw_89) rfl rfl rfl (by decide +kernel) ⟨Nat.le_of_ble_eq_true rfl, Nat.le_of_ble_eq_true rfl⟩) (nz_preSR hPc hDc hK hN hE hSE) rfl rfl hl.1 rfl (lv_room (Nat.le_of_ble_eq_true rfl)) d_Ts_endOfToken_7 ⟨(Nat.le_of_ble_eq_true rfl), (Nat.le_of_ble_eq_true rfl)⟩)) (fun r1 er1 => ?_)
  refine lv_if_eq (tgt := 33) hx hb d_Ts_endOfToken_10 rfl (fun hc10 => ?_) (fun hc10 => ?_)
  · skip
    refine lv_aload_n hx hb d_Ts_endOfToken_33 rfl (lv_at hl 1 rfl) ?_
    refine lv_iload_n hx hb d_Ts_endOfToken_34 rfl (lv_at hl 2 rfl) ?_
    refine va_cald hx hb hK hP 0 1 rfl rfl (vp_in_nI (by omega) (by decide)) d_Ts_endOfToken_35 ?_
    have hPc := hP.sub (ws' := []) [] rfl
    have hDc := hD.sub (ws' := []) [] (by decide) rfl
    refine vp_callSi (va_Run.run (va_runS (As := [.int ((tf) (nI a).toNatClampNeg)]) (rest := []) ⟨hx, hb, hml, hown, hts⟩ (k_isDigit l G tk _ ((tf) (nI a).toNatClampNeg)) (va_cwS 1 hts (nn_gS mw_421 mw_419 mw_420 mw_89) rfl rfl rfl (by decide +kernel) ⟨Nat.le_of_ble_eq_true rfl, Nat.le_of_ble_eq_true rfl⟩) (nz_preSR hPc hDc hK hN hE hSE) rfl rfl hl.1 rfl (lv_room (Nat.le_of_ble_eq_true rfl)) d_Ts_endOfToken_36 ⟨(Nat.le_of_ble_eq_true rfl), (Nat.le_of_ble_eq_true rfl)⟩)) (fun r2 er2 => ?_)
    refine lv_if_eq (tgt := 62) hx hb d_Ts_endOfToken_39 rfl (fun hc39 => ?_) (fun hc39 => ?_)
    · skip
      refine lv_aload_n hx hb d_Ts_endOfToken_62 rfl (lv_at hl 1 rfl) ?_
      refine lv_iload_n hx hb d_Ts_endOfToken_63 rfl (lv_at hl 2 rfl) ?_
      refine va_cald hx hb hK hP 0 1 rfl rfl (vp_in_nI (by omega) (by decide)) d_Ts_endOfToken_64 ?_
      refine lv_bipush (v := 58) hx hb d_Ts_endOfToken_65 (by decide) ?_
      refine lv_icmp_ne (tgt := 86) hx hb d_Ts_endOfToken_67 rfl (fun hc67 => ?_) (fun hc67 => ?_)
      · skip
        refine lv_iload_n hx hb d_Ts_endOfToken_86 rfl (lv_at hl 0 rfl) ?_
        exact W.iret (v := nI (a + 1)) hx hb hr (fun t ht hW => ⟨nI (a + 1), rfl, ⟨a + 1, rfl, by omega, by omega⟩, ht⟩) (fun q h => by cases h) d_Ts_endOfToken_87
      · skip
        refine lv_iload_n hx hb d_Ts_endOfToken_70 rfl (lv_at hl 0 rfl) ?_
        refine lv_iload_n hx hb d_Ts_endOfToken_71 rfl (lv_at hl 3 rfl) ?_
        refine lv_icmp_ge (tgt := 86) hx hb d_Ts_endOfToken_72 rfl (fun hc72 => ?_) (fun hc72 => ?_)
        · skip
          refine lv_iload_n hx hb d_Ts_endOfToken_86 rfl (lv_at hl 0 rfl) ?_
          exact W.iret (v := nI (a + 1)) hx hb hr (fun t ht hW => ⟨nI (a + 1), rfl, ⟨a + 1, rfl, by omega, by omega⟩, ht⟩) (fun q h => by cases h) d_Ts_endOfToken_87
        · skip
          refine lv_aload_n hx hb d_Ts_endOfToken_75 rfl (lv_at hl 1 rfl) ?_
          refine lv_iload_n hx hb d_Ts_endOfToken_76 rfl (lv_at hl 0 rfl) ?_
          refine va_cald hx hb hK hP 0 1 rfl rfl (vp_in_nI (show a + 1 < 180 by have := nz_nle hc72 (by omega); omega) (by decide)) d_Ts_endOfToken_77 ?_
          refine lv_bipush (v := 61) hx hb d_Ts_endOfToken_78 (by decide) ?_
          refine lv_icmp_ne (tgt := 86) hx hb d_Ts_endOfToken_80 rfl (fun hc80 => ?_) (fun hc80 => ?_)
          · skip
            refine lv_iload_n hx hb d_Ts_endOfToken_86 rfl (lv_at hl 0 rfl) ?_
            exact W.iret (v := nI (a + 1)) hx hb hr (fun t ht hW => ⟨nI (a + 1), rfl, ⟨a + 1, rfl, by omega, by omega⟩, ht⟩) (fun q h => by cases h) d_Ts_endOfToken_87
          · skip
            refine lv_iinc (k := 0) (v := nI (a + 1 + 1)) (lv' := [(3, .int (nI (a + 1 + 1))), (0, .ref tx), (1, .int (nI a)), (2, .int (nI n))]) hx hb d_Ts_endOfToken_83 hl rfl ((nI_succ (a + 1)).symm) (by decide) rfl (fun ls hl => ?_)
            refine lv_iload_n hx hb d_Ts_endOfToken_86 rfl (lv_at hl 0 rfl) ?_
            exact W.iret (v := nI (a + 1 + 1)) hx hb hr (fun t ht hW => ⟨nI (a + 1 + 1), rfl, ⟨a + 1 + 1, rfl, by omega, by have := nz_nle hc72 (by omega); omega⟩, ht⟩) (fun q h => by cases h) d_Ts_endOfToken_87
    · skip
      have hl := lv_sub (l' := [(3, .int (nI (a + 1))), (0, .ref tx), (1, .int (nI a)), (2, .int (nI n))]) hl [0, 1, 2, 3] rfl
      suffices loop : ∀ (j : Nat) (i : Nat) (ls : Array Slot), i + j = n → a < i → lv_has ls 4 [(3, .int (nI i)), (0, .ref tx), (1, .int (nI a)), (2, .int (nI n))] → W p l e (headSpec w_Ts_endOfToken ({ frames := 1, cells := 0, slots := 0, locals := 20 })).room s m [.ref tx, .int (nI a), .int (nI n)].toArray below meth c s.heap [] 0 0 (MQ below (vp_Si (fun r => ∃ e, r = nI e ∧ a < e ∧ e ≤ n)) [.ref tx, .int (nI a), .int (nI n)].toArray s 0 0 (fun _ => False)) (F0 m 42 ls []) by
        exact loop (n - (a + 1)) (a + 1) ls (by omega) (by omega) hl
      intro j
      induction j with
      | zero =>
        intro i ls hij hai hl
        refine lv_iload_n hx hb d_Ts_endOfToken_42 rfl (lv_at hl 0 rfl) ?_
        refine lv_iload_n hx hb d_Ts_endOfToken_43 rfl (lv_at hl 3 rfl) ?_
        refine lv_icmp_ge (tgt := 86) hx hb d_Ts_endOfToken_44 rfl (fun _ => ?_) (fun h => absurd (nI_le (by omega) (by omega)) h)
        refine lv_iload_n hx hb d_Ts_endOfToken_86 rfl (lv_at hl 0 rfl) ?_
        exact W.iret (v := nI i) hx hb hr (fun t ht hW => ⟨nI i, rfl, ⟨i, rfl, by omega, by omega⟩, ht⟩) (fun q h => by cases h) d_Ts_endOfToken_87
      | succ j ih =>
        intro i ls hij hai hl
        refine lv_iload_n hx hb d_Ts_endOfToken_42 rfl (lv_at hl 0 rfl) ?_
        refine lv_iload_n hx hb d_Ts_endOfToken_43 rfl (lv_at hl 3 rfl) ?_
        refine lv_icmp_ge (tgt := 86) hx hb d_Ts_endOfToken_44 rfl (fun h => absurd h (nI_ge (by omega) (by omega))) (fun _ => ?_)
        refine lv_aload_n hx hb d_Ts_endOfToken_47 rfl (lv_at hl 1 rfl) ?_
        refine lv_iload_n hx hb d_Ts_endOfToken_48 rfl (lv_at hl 0 rfl) ?_
        refine va_cald hx hb hK hP 0 1 rfl rfl (vp_in_nI (by omega) (by decide)) d_Ts_endOfToken_49 ?_
        have hPc := hP.sub (ws' := []) [] rfl
        have hDc := hD.sub (ws' := []) [] (by decide) rfl
        refine vp_callSi (va_Run.run (va_runS (As := [.int ((tf) (nI i).toNatClampNeg)]) (rest := []) ⟨hx, hb, hml, hown, hts⟩ (k_isDigit l G tk _ ((tf) (nI i).toNatClampNeg)) (va_cwS 1 hts (nn_gS mw_421 mw_419 mw_420 mw_89) rfl rfl rfl (by decide +kernel) ⟨Nat.le_of_ble_eq_true rfl, Nat.le_of_ble_eq_true rfl⟩) (nz_preSR hPc hDc hK hN hE hSE) rfl rfl hl.1 rfl (lv_room (Nat.le_of_ble_eq_true rfl)) d_Ts_endOfToken_50 ⟨(Nat.le_of_ble_eq_true rfl), (Nat.le_of_ble_eq_true rfl)⟩)) (fun r3 er3 => ?_)
        refine lv_if_eq (tgt := 86) hx hb d_Ts_endOfToken_53 rfl (fun hc53 => ?_) (fun hc53 => ?_)
        · skip
          refine lv_iload_n hx hb d_Ts_endOfToken_86 rfl (lv_at hl 0 rfl) ?_
          exact W.iret (v := nI i) hx hb hr (fun t ht hW => ⟨nI i, rfl, ⟨i, rfl, by omega, by omega⟩, ht⟩) (fun q h => by cases h) d_Ts_endOfToken_87
        · skip
          refine lv_iinc (k := 0) (v := nI (i + 1)) (lv' := [(3, .int (nI (i + 1))), (0, .ref tx), (1, .int (nI a)), (2, .int (nI n))]) hx hb d_Ts_endOfToken_56 hl rfl ((nI_succ i).symm) (by decide) rfl (fun ls hl => ?_)
          refine lv_goto (tgt := 42) hx hb d_Ts_endOfToken_59 rfl ?_
          have hl := lv_sub (l' := [(3, .int (nI (i + 1))), (0, .ref tx), (1, .int (nI a)), (2, .int (nI n))]) hl [0, 1, 2, 3] rfl
          exact ih (i + 1) ls (by omega) (by omega) hl
  · skip
    have hl := lv_sub (l' := [(3, .int (nI (a + 1))), (0, .ref tx), (1, .int (nI a)), (2, .int (nI n))]) hl [0, 1, 2, 3] rfl
    suffices loop : ∀ (j : Nat) (i : Nat) (ls : Array Slot), i + j = n → a < i → lv_has ls 4 [(3, .int (nI i)), (0, .ref tx), (1, .int (nI a)), (2, .int (nI n))] → W p l e (headSpec w_Ts_endOfToken ({ frames := 1, cells := 0, slots := 0, locals := 20 })).room s m [.ref tx, .int (nI a), .int (nI n)].toArray below meth c s.heap [] 0 0 (MQ below (vp_Si (fun r => ∃ e, r = nI e ∧ a < e ∧ e ≤ n)) [.ref tx, .int (nI a), .int (nI n)].toArray s 0 0 (fun _ => False)) (F0 m 13 ls []) by
      exact loop (n - (a + 1)) (a + 1) ls (by omega) (by omega) hl
    intro j
    induction j with
    | zero =>
      intro i ls hij hai hl
      refine lv_iload_n hx hb d_Ts_endOfToken_13 rfl (lv_at hl 0 rfl) ?_
      refine lv_iload_n hx hb d_Ts_endOfToken_14 rfl (lv_at hl 3 rfl) ?_
      refine lv_icmp_ge (tgt := 86) hx hb d_Ts_endOfToken_15 rfl (fun _ => ?_) (fun h => absurd (nI_le (by omega) (by omega)) h)
      refine lv_iload_n hx hb d_Ts_endOfToken_86 rfl (lv_at hl 0 rfl) ?_
      exact W.iret (v := nI i) hx hb hr (fun t ht hW => ⟨nI i, rfl, ⟨i, rfl, by omega, by omega⟩, ht⟩) (fun q h => by cases h) d_Ts_endOfToken_87
    | succ j ih =>
      intro i ls hij hai hl
      refine lv_iload_n hx hb d_Ts_endOfToken_13 rfl (lv_at hl 0 rfl) ?_
      refine lv_iload_n hx hb d_Ts_endOfToken_14 rfl (lv_at hl 3 rfl) ?_
      refine lv_icmp_ge (tgt := 86) hx hb d_Ts_endOfToken_15 rfl (fun h => absurd h (nI_ge (by omega) (by omega))) (fun _ => ?_)
      refine lv_aload_n hx hb d_Ts_endOfToken_18 rfl (lv_at hl 1 rfl) ?_
      refine lv_iload_n hx hb d_Ts_endOfToken_19 rfl (lv_at hl 0 rfl) ?_
      refine va_cald hx hb hK hP 0 1 rfl rfl (vp_in_nI (by omega) (by decide)) d_Ts_endOfToken_20 ?_
      have hPc := hP.sub (ws' := []) [] rfl
      have hDc := hD.sub (ws' := []) [] (by decide) rfl
      refine vp_callSi (va_Run.run (va_runS (As := [.int ((tf) (nI i).toNatClampNeg)]) (rest := []) ⟨hx, hb, hml, hown, hts⟩ (k_isLetter l G tk _ ((tf) (nI i).toNatClampNeg)) (va_cwS 1 hts (nn_gS mw_418 mw_416 mw_417 mw_89) rfl rfl rfl (by decide +kernel) ⟨Nat.le_of_ble_eq_true rfl, Nat.le_of_ble_eq_true rfl⟩) (nz_preSR hPc hDc hK hN hE hSE) rfl rfl hl.1 rfl (lv_room (Nat.le_of_ble_eq_true rfl)) d_Ts_endOfToken_21 ⟨(Nat.le_of_ble_eq_true rfl), (Nat.le_of_ble_eq_true rfl)⟩)) (fun r4 er4 => ?_)
      refine lv_if_eq (tgt := 86) hx hb d_Ts_endOfToken_24 rfl (fun hc24 => ?_) (fun hc24 => ?_)
      · skip
        refine lv_iload_n hx hb d_Ts_endOfToken_86 rfl (lv_at hl 0 rfl) ?_
        exact W.iret (v := nI i) hx hb hr (fun t ht hW => ⟨nI i, rfl, ⟨i, rfl, by omega, by omega⟩, ht⟩) (fun q h => by cases h) d_Ts_endOfToken_87
      · skip
        refine lv_iinc (k := 0) (v := nI (i + 1)) (lv' := [(3, .int (nI (i + 1))), (0, .ref tx), (1, .int (nI a)), (2, .int (nI n))]) hx hb d_Ts_endOfToken_27 hl rfl ((nI_succ i).symm) (by decide) rfl (fun ls hl => ?_)
        refine lv_goto (tgt := 13) hx hb d_Ts_endOfToken_30 rfl ?_
        have hl := lv_sub (l' := [(3, .int (nI (i + 1))), (0, .ref tx), (1, .int (nI a)), (2, .int (nI n))]) hl [0, 1, 2, 3] rfl
        exact ih (i + 1) ls (by omega) (by omega) hl

theorem mw_131 : (.fieldLink R_Ts 13 R_Ts "kinds" "[LNestPascal$Token;" : Cond) ∈ nn_gw := nn_at 131 (by decide +kernel) (by decide +kernel)
theorem mw_135 : (.fieldLink R_Ts 28 R_Ts "atHand" "I" : Cond) ∈ nn_gw := nn_at 135 (by decide +kernel) (by decide +kernel)
theorem d_Ts_kind_0 : decode b_Ts_kind 0 = .ok (.aload_n 0, 1) := by decide +kernel
theorem d_Ts_kind_1 : decode b_Ts_kind 1 = .ok (.getfield 13, 3) := by decide +kernel
theorem d_Ts_kind_4 : decode b_Ts_kind 4 = .ok (.aload_n 0, 1) := by decide +kernel
theorem d_Ts_kind_5 : decode b_Ts_kind 5 = .ok (.getfield 28, 3) := by decide +kernel
theorem d_Ts_kind_8 : decode b_Ts_kind 8 = .ok (.aaload, 1) := by decide +kernel
theorem d_Ts_kind_9 : decode b_Ts_kind 9 = .ok (.areturn, 1) := by decide +kernel

set_option maxHeartbeats 4000000 in
set_option maxRecDepth 100000 in
theorem k_kind (l : Launch) (G : nn_G) (tk : Nat → Nat) (sz : Nat) (ad : Nat → Nat) (q : Nat → Option Nat) (pl vl : Nat → Int32) (tc ta : Nat) (h1 : tc ≤ 181) (h2 : ta < tc) (h3 : ∀ j, j < tc → ∃ i, i < 31 ∧ q j = some (tk i)) : Met l y_Ts_kind w_Ts_kind ({ frames := 0, cells := 0, slots := 0, locals := 0 }) (nz_PR G tk [.ref (ad 1)] [((ad 1), .inr (6, [.ref (ad 2), .ref (ad 3), .ref (ad 4), .int (nI tc), .int (nI ta)])), ((ad 2), .inl (G.2 3, 181, .inr (.inr (.inr (.inr (q)))))), ((ad 3), .inl (G.2 0, 181, .inl (pl))), ((ad 4), .inl (G.2 0, 181, .inl (vl)))] sz) (va_Sr (fun k => k < 31) (fun k => .ref (tk k))) 0 0 (fun _ => False) := by
  refine Met.ofW (cc := b_Ts_kind) (maxL := 1) (ret := some (.object "NestPascal$Token")) (by decide) rfl ?_
  intro p e s m args below meth c s₁ B hml hv
  obtain ⟨rfl, ⟨hsz, hP, hK, hD0, hN⟩, hE⟩ := hv
  have hx := B.exec
  have hb := B.bytes
  have hr := B.returns
  have hts := atoms_spec (ws := w_Ts_kind) B.pre
  have hg : ∀ w ∈ nn_gw, w.before _ s = true := fun w h => hts w (List.mem_cons_of_mem _ h)
  have hown : s.vm.findClass R_Ts = some m.cls := findClass_of_methodNamed B.named
  have hlocks := B.notSynchronized
  subst hsz
  have hD := hD0
  generalize hAe : (fun _ : Nat => True) = A at hD
  have hA : ∀ q : Nat, s.heap.size ≤ q → A q := fun q h => by rw [← hAe]; trivial
  have hSE : va_S (fun _ => False) s.heap s.heap [] := va_S.rf
  have hS : va_S A s.heap s.heap [] := va_S.rf
  have hP : va_P G.1 nn_cls [((ad 1), .inr (6, [.ref (ad 2), .ref (ad 3), .ref (ad 4), .int (nI tc), .int (nI ta)])), ((ad 2), .inl (G.2 3, 181, .inr (.inr (.inr (.inr (q)))))), ((ad 3), .inl (G.2 0, 181, .inl (pl))), ((ad 4), .inl (G.2 0, 181, .inl (vl)))] s.heap := hP
  have hl := lv_entry ([.ref (ad 1)]) (n := 1) (Nat.le_of_ble_eq_true rfl)
  rw [lg_entry_eq]
  generalize (lg_sl ([.ref (ad 1)]) ++ List.replicate (1 - (lg_sl ([.ref (ad 1)])).length) Slot.unset).toArray = ls at hl ⊢
  have hl : lv_has ls 1 [(0, .ref (ad 1))] := hl
  refine lv_aload_n hx hb d_Ts_kind_0 rfl (lv_at hl 0 rfl) ?_
  refine va_get (D := G.1) (ci := 6) (v := .ref (ad 2)) (C := R_Ts) (T := T_Ts) (N := 5) hx hb hg in_Ts hown hK hP 0 rfl rfl 0 (by decide) (hg _ mw_131) (fun _ h9 => h9) rfl d_Ts_kind_1 ?_
  refine lv_aload_n hx hb d_Ts_kind_4 rfl (lv_at hl 0 rfl) ?_
  refine va_get (D := G.1) (ci := 6) (v := .int (nI ta)) (C := R_Ts) (T := T_Ts) (N := 5) hx hb hg in_Ts hown hK hP 0 rfl rfl 4 (by decide) (hg _ mw_135) (fun _ h9 => h9) rfl d_Ts_kind_5 ?_
  refine va_aldq hx hb hK hP 1 3 rfl rfl (vp_in_nI (show ta < 181 by omega) (by decide)) d_Ts_kind_8 ?_
  obtain ⟨k1, hk1, ek1⟩ := h3 ta h2
  refine nb_topv (.ref (tk k1)) (by rw [nI_clamp (by omega), ek1]; rfl) ?_
  exact W.aret (v := .ref (tk k1)) hx hb hr (Or.inl ⟨_, rfl⟩) (Or.inr ⟨_, rfl⟩) (fun t ht hW => ⟨k1, rfl, hk1, ht⟩) (fun q h => by cases h) d_Ts_kind_9

theorem d_Ts_isAt_0 : decode b_Ts_isAt 0 = .ok (.aload_n 0, 1) := by decide +kernel
theorem d_Ts_isAt_1 : decode b_Ts_isAt 1 = .ok (.getfield 13, 3) := by decide +kernel
theorem d_Ts_isAt_4 : decode b_Ts_isAt 4 = .ok (.aload_n 0, 1) := by decide +kernel
theorem d_Ts_isAt_5 : decode b_Ts_isAt 5 = .ok (.getfield 28, 3) := by decide +kernel
theorem d_Ts_isAt_8 : decode b_Ts_isAt 8 = .ok (.aaload, 1) := by decide +kernel
theorem d_Ts_isAt_9 : decode b_Ts_isAt 9 = .ok (.aload_n 1, 1) := by decide +kernel
theorem d_Ts_isAt_10 : decode b_Ts_isAt 10 = .ok (.if_acmp .ne 7, 3) := by decide +kernel
theorem d_Ts_isAt_13 : decode b_Ts_isAt 13 = .ok (.iconst 1, 1) := by decide +kernel
theorem d_Ts_isAt_14 : decode b_Ts_isAt 14 = .ok (.goto 4, 3) := by decide +kernel
theorem d_Ts_isAt_17 : decode b_Ts_isAt 17 = .ok (.iconst 0, 1) := by decide +kernel
theorem d_Ts_isAt_18 : decode b_Ts_isAt 18 = .ok (.ireturn, 1) := by decide +kernel

set_option maxHeartbeats 4000000 in
set_option maxRecDepth 100000 in
theorem k_isAt (l : Launch) (G : nn_G) (tk : Nat → Nat) (sz : Nat) (ad : Nat → Nat) (q : Nat → Option Nat) (pl vl : Nat → Int32) (tc ta : Nat) (k : Nat) (h1 : tc ≤ 181) (h2 : ta < tc) (h3 : ∀ j, j < tc → ∃ i, i < 31 ∧ q j = some (tk i)) : Met l y_Ts_isAt w_Ts_isAt ({ frames := 0, cells := 0, slots := 0, locals := 0 }) (nz_PR G tk [.ref (ad 1), .ref (tk k)] [((ad 1), .inr (6, [.ref (ad 2), .ref (ad 3), .ref (ad 4), .int (nI tc), .int (nI ta)])), ((ad 2), .inl (G.2 3, 181, .inr (.inr (.inr (.inr (q)))))), ((ad 3), .inl (G.2 0, 181, .inl (pl))), ((ad 4), .inl (G.2 0, 181, .inl (vl)))] sz) (vp_Si (fun r => True)) 0 0 (fun _ => False) := by
  refine Met.ofW (cc := b_Ts_isAt) (maxL := 2) (ret := some .boolean) (by decide) rfl ?_
  intro p e s m args below meth c s₁ B hml hv
  obtain ⟨rfl, ⟨hsz, hP, hK, hD0, hN⟩, hE⟩ := hv
  have hx := B.exec
  have hb := B.bytes
  have hr := B.returns
  have hts := atoms_spec (ws := w_Ts_isAt) B.pre
  have hg : ∀ w ∈ nn_gw, w.before _ s = true := fun w h => hts w (List.mem_cons_of_mem _ h)
  have hown : s.vm.findClass R_Ts = some m.cls := findClass_of_methodNamed B.named
  have hlocks := B.notSynchronized
  subst hsz
  have hD := hD0
  generalize hAe : (fun _ : Nat => True) = A at hD
  have hA : ∀ q : Nat, s.heap.size ≤ q → A q := fun q h => by rw [← hAe]; trivial
  have hSE : va_S (fun _ => False) s.heap s.heap [] := va_S.rf
  have hS : va_S A s.heap s.heap [] := va_S.rf
  have hP : va_P G.1 nn_cls [((ad 1), .inr (6, [.ref (ad 2), .ref (ad 3), .ref (ad 4), .int (nI tc), .int (nI ta)])), ((ad 2), .inl (G.2 3, 181, .inr (.inr (.inr (.inr (q)))))), ((ad 3), .inl (G.2 0, 181, .inl (pl))), ((ad 4), .inl (G.2 0, 181, .inl (vl)))] s.heap := hP
  have hl := lv_entry ([.ref (ad 1), .ref (tk k)]) (n := 2) (Nat.le_of_ble_eq_true rfl)
  rw [lg_entry_eq]
  generalize (lg_sl ([.ref (ad 1), .ref (tk k)]) ++ List.replicate (2 - (lg_sl ([.ref (ad 1), .ref (tk k)])).length) Slot.unset).toArray = ls at hl ⊢
  have hl : lv_has ls 2 [(0, .ref (ad 1)), (1, .ref (tk k))] := hl
  refine lv_aload_n hx hb d_Ts_isAt_0 rfl (lv_at hl 0 rfl) ?_
  refine va_get (D := G.1) (ci := 6) (v := .ref (ad 2)) (C := R_Ts) (T := T_Ts) (N := 5) hx hb hg in_Ts hown hK hP 0 rfl rfl 0 (by decide) (hg _ mw_131) (fun _ h9 => h9) rfl d_Ts_isAt_1 ?_
  refine lv_aload_n hx hb d_Ts_isAt_4 rfl (lv_at hl 0 rfl) ?_
  refine va_get (D := G.1) (ci := 6) (v := .int (nI ta)) (C := R_Ts) (T := T_Ts) (N := 5) hx hb hg in_Ts hown hK hP 0 rfl rfl 4 (by decide) (hg _ mw_135) (fun _ h9 => h9) rfl d_Ts_isAt_5 ?_
  refine va_aldq hx hb hK hP 1 3 rfl rfl (vp_in_nI (show ta < 181 by omega) (by decide)) d_Ts_isAt_8 ?_
  obtain ⟨k1, hk1, ek1⟩ := h3 ta h2
  refine nb_topv (.ref (tk k1)) (by rw [nI_clamp (by omega), ek1]; rfl) ?_
  refine lv_aload_n hx hb d_Ts_isAt_9 rfl (lv_at hl 1 rfl) ?_
  refine lv_acmp_ne (rx := some (tk k1)) (ry := some (tk k)) (tgt := 17) hx hb d_Ts_isAt_10 rfl (fun hc10 => ?_) (fun hc10 => ?_)
  · skip
    refine lv_iconst (v := 0) hx hb d_Ts_isAt_17 (by decide) ?_
    exact W.zret (v := 0) hx hb hr (by first | rfl | rfl) (fun t ht hW => ⟨0, rfl, trivial, ht⟩) (fun q h => by cases h) d_Ts_isAt_18
  · skip
    refine lv_iconst (v := 1) hx hb d_Ts_isAt_13 (by decide) ?_
    refine lv_goto (tgt := 18) hx hb d_Ts_isAt_14 rfl ?_
    exact W.zret (v := 1) hx hb hr (by first | rfl | rfl) (fun t ht hW => ⟨1, rfl, trivial, ht⟩) (fun q h => by cases h) d_Ts_isAt_18

theorem mw_134 : (.fieldLink R_Ts 24 R_Ts "count" "I" : Cond) ∈ nn_gw := nn_at 134 (by decide +kernel) (by decide +kernel)
theorem d_Ts_isInFrontOf_0 : decode b_Ts_isInFrontOf 0 = .ok (.aload_n 0, 1) := by decide +kernel
theorem d_Ts_isInFrontOf_1 : decode b_Ts_isInFrontOf 1 = .ok (.getfield 28, 3) := by decide +kernel
theorem d_Ts_isInFrontOf_4 : decode b_Ts_isInFrontOf 4 = .ok (.iconst 1, 1) := by decide +kernel
theorem d_Ts_isInFrontOf_5 : decode b_Ts_isInFrontOf 5 = .ok (.iadd, 1) := by decide +kernel
theorem d_Ts_isInFrontOf_6 : decode b_Ts_isInFrontOf 6 = .ok (.aload_n 0, 1) := by decide +kernel
theorem d_Ts_isInFrontOf_7 : decode b_Ts_isInFrontOf 7 = .ok (.getfield 24, 3) := by decide +kernel
theorem d_Ts_isInFrontOf_10 : decode b_Ts_isInFrontOf 10 = .ok (.if_icmp .ge 22, 3) := by decide +kernel
theorem d_Ts_isInFrontOf_13 : decode b_Ts_isInFrontOf 13 = .ok (.aload_n 0, 1) := by decide +kernel
theorem d_Ts_isInFrontOf_14 : decode b_Ts_isInFrontOf 14 = .ok (.getfield 13, 3) := by decide +kernel
theorem d_Ts_isInFrontOf_17 : decode b_Ts_isInFrontOf 17 = .ok (.aload_n 0, 1) := by decide +kernel
theorem d_Ts_isInFrontOf_18 : decode b_Ts_isInFrontOf 18 = .ok (.getfield 28, 3) := by decide +kernel
theorem d_Ts_isInFrontOf_21 : decode b_Ts_isInFrontOf 21 = .ok (.iconst 1, 1) := by decide +kernel
theorem d_Ts_isInFrontOf_22 : decode b_Ts_isInFrontOf 22 = .ok (.iadd, 1) := by decide +kernel
theorem d_Ts_isInFrontOf_23 : decode b_Ts_isInFrontOf 23 = .ok (.aaload, 1) := by decide +kernel
theorem d_Ts_isInFrontOf_24 : decode b_Ts_isInFrontOf 24 = .ok (.aload_n 1, 1) := by decide +kernel
theorem d_Ts_isInFrontOf_25 : decode b_Ts_isInFrontOf 25 = .ok (.if_acmp .ne 7, 3) := by decide +kernel
theorem d_Ts_isInFrontOf_28 : decode b_Ts_isInFrontOf 28 = .ok (.iconst 1, 1) := by decide +kernel
theorem d_Ts_isInFrontOf_29 : decode b_Ts_isInFrontOf 29 = .ok (.goto 4, 3) := by decide +kernel
theorem d_Ts_isInFrontOf_32 : decode b_Ts_isInFrontOf 32 = .ok (.iconst 0, 1) := by decide +kernel
theorem d_Ts_isInFrontOf_33 : decode b_Ts_isInFrontOf 33 = .ok (.ireturn, 1) := by decide +kernel

set_option maxHeartbeats 4000000 in
set_option maxRecDepth 100000 in
theorem k_isInFrontOf (l : Launch) (G : nn_G) (tk : Nat → Nat) (sz : Nat) (ad : Nat → Nat) (q : Nat → Option Nat) (pl vl : Nat → Int32) (tc ta : Nat) (k : Nat) (h1 : tc ≤ 181) (h2 : ta < tc) (h3 : ∀ j, j < tc → ∃ i, i < 31 ∧ q j = some (tk i)) : Met l y_Ts_isInFrontOf w_Ts_isInFrontOf ({ frames := 0, cells := 0, slots := 0, locals := 0 }) (nz_PR G tk [.ref (ad 1), .ref (tk k)] [((ad 1), .inr (6, [.ref (ad 2), .ref (ad 3), .ref (ad 4), .int (nI tc), .int (nI ta)])), ((ad 2), .inl (G.2 3, 181, .inr (.inr (.inr (.inr (q)))))), ((ad 3), .inl (G.2 0, 181, .inl (pl))), ((ad 4), .inl (G.2 0, 181, .inl (vl)))] sz) (vp_Si (fun r => True)) 0 0 (fun _ => False) := by
  refine Met.ofW (cc := b_Ts_isInFrontOf) (maxL := 2) (ret := some .boolean) (by decide) rfl ?_
  intro p e s m args below meth c s₁ B hml hv
  obtain ⟨rfl, ⟨hsz, hP, hK, hD0, hN⟩, hE⟩ := hv
  have hx := B.exec
  have hb := B.bytes
  have hr := B.returns
  have hts := atoms_spec (ws := w_Ts_isInFrontOf) B.pre
  have hg : ∀ w ∈ nn_gw, w.before _ s = true := fun w h => hts w (List.mem_cons_of_mem _ h)
  have hown : s.vm.findClass R_Ts = some m.cls := findClass_of_methodNamed B.named
  have hlocks := B.notSynchronized
  subst hsz
  have hD := hD0
  generalize hAe : (fun _ : Nat => True) = A at hD
  have hA : ∀ q : Nat, s.heap.size ≤ q → A q := fun q h => by rw [← hAe]; trivial
  have hSE : va_S (fun _ => False) s.heap s.heap [] := va_S.rf
  have hS : va_S A s.heap s.heap [] := va_S.rf
  have hP : va_P G.1 nn_cls [((ad 1), .inr (6, [.ref (ad 2), .ref (ad 3), .ref (ad 4), .int (nI tc), .int (nI ta)])), ((ad 2), .inl (G.2 3, 181, .inr (.inr (.inr (.inr (q)))))), ((ad 3), .inl (G.2 0, 181, .inl (pl))), ((ad 4), .inl (G.2 0, 181, .inl (vl)))] s.heap := hP
  have hl := lv_entry ([.ref (ad 1), .ref (tk k)]) (n := 2) (Nat.le_of_ble_eq_true rfl)
  rw [lg_entry_eq]
  generalize (lg_sl ([.ref (ad 1), .ref (tk k)]) ++ List.replicate (2 - (lg_sl ([.ref (ad 1), .ref (tk k)])).length) Slot.unset).toArray = ls at hl ⊢
  have hl : lv_has ls 2 [(0, .ref (ad 1)), (1, .ref (tk k))] := hl
  refine lv_aload_n hx hb d_Ts_isInFrontOf_0 rfl (lv_at hl 0 rfl) ?_
  refine va_get (D := G.1) (ci := 6) (v := .int (nI ta)) (C := R_Ts) (T := T_Ts) (N := 5) hx hb hg in_Ts hown hK hP 0 rfl rfl 4 (by decide) (hg _ mw_135) (fun _ h9 => h9) rfl d_Ts_isInFrontOf_1 ?_
  refine lv_iconst (v := 1) hx hb d_Ts_isInFrontOf_4 (by decide) ?_
  refine lv_iadd hx hb d_Ts_isInFrontOf_5 ?_
  refine nb_top (nI (ta + 1)) (nI_1 ta) ?_
  refine lv_aload_n hx hb d_Ts_isInFrontOf_6 rfl (lv_at hl 0 rfl) ?_
  refine va_get (D := G.1) (ci := 6) (v := .int (nI tc)) (C := R_Ts) (T := T_Ts) (N := 5) hx hb hg in_Ts hown hK hP 0 rfl rfl 3 (by decide) (hg _ mw_134) (fun _ h9 => h9) rfl d_Ts_isInFrontOf_7 ?_
  refine lv_icmp_ge (tgt := 32) hx hb d_Ts_isInFrontOf_10 rfl (fun hc10 => ?_) (fun hc10 => ?_)
  · skip
    refine lv_iconst (v := 0) hx hb d_Ts_isInFrontOf_32 (by decide) ?_
    exact W.zret (v := 0) hx hb hr (by first | rfl | rfl) (fun t ht hW => ⟨0, rfl, trivial, ht⟩) (fun q h => by cases h) d_Ts_isInFrontOf_33
  · skip
    refine lv_aload_n hx hb d_Ts_isInFrontOf_13 rfl (lv_at hl 0 rfl) ?_
    refine va_get (D := G.1) (ci := 6) (v := .ref (ad 2)) (C := R_Ts) (T := T_Ts) (N := 5) hx hb hg in_Ts hown hK hP 0 rfl rfl 0 (by decide) (hg _ mw_131) (fun _ h9 => h9) rfl d_Ts_isInFrontOf_14 ?_
    refine lv_aload_n hx hb d_Ts_isInFrontOf_17 rfl (lv_at hl 0 rfl) ?_
    refine va_get (D := G.1) (ci := 6) (v := .int (nI ta)) (C := R_Ts) (T := T_Ts) (N := 5) hx hb hg in_Ts hown hK hP 0 rfl rfl 4 (by decide) (hg _ mw_135) (fun _ h9 => h9) rfl d_Ts_isInFrontOf_18 ?_
    refine lv_iconst (v := 1) hx hb d_Ts_isInFrontOf_21 (by decide) ?_
    refine lv_iadd hx hb d_Ts_isInFrontOf_22 ?_
    refine nb_top (nI (ta + 1)) (nI_1 ta) ?_
    refine va_aldq hx hb hK hP 1 3 rfl rfl (vp_in_nI (show ta + 1 < 181 by have := nz_nle hc10 (by omega); omega) (by decide)) d_Ts_isInFrontOf_23 ?_
    obtain ⟨k1, hk1, ek1⟩ := h3 (ta + 1) (nz_nle hc10 (by omega))
    refine nb_topv (.ref (tk k1)) (by rw [nI_clamp (by omega), ek1]; rfl) ?_
    refine lv_aload_n hx hb d_Ts_isInFrontOf_24 rfl (lv_at hl 1 rfl) ?_
    refine lv_acmp_ne (rx := some (tk k1)) (ry := some (tk k)) (tgt := 32) hx hb d_Ts_isInFrontOf_25 rfl (fun hc25 => ?_) (fun hc25 => ?_)
    · skip
      refine lv_iconst (v := 0) hx hb d_Ts_isInFrontOf_32 (by decide) ?_
      exact W.zret (v := 0) hx hb hr (by first | rfl | rfl) (fun t ht hW => ⟨0, rfl, trivial, ht⟩) (fun q h => by cases h) d_Ts_isInFrontOf_33
    · skip
      refine lv_iconst (v := 1) hx hb d_Ts_isInFrontOf_28 (by decide) ?_
      refine lv_goto (tgt := 33) hx hb d_Ts_isInFrontOf_29 rfl ?_
      exact W.zret (v := 1) hx hb hr (by first | rfl | rfl) (fun t ht hW => ⟨1, rfl, trivial, ht⟩) (fun q h => by cases h) d_Ts_isInFrontOf_33

theorem mw_132 : (.fieldLink R_Ts 17 R_Ts "places" "[I" : Cond) ∈ nn_gw := nn_at 132 (by decide +kernel) (by decide +kernel)
theorem d_Ts_place_0 : decode b_Ts_place 0 = .ok (.aload_n 0, 1) := by decide +kernel
theorem d_Ts_place_1 : decode b_Ts_place 1 = .ok (.getfield 17, 3) := by decide +kernel
theorem d_Ts_place_4 : decode b_Ts_place 4 = .ok (.aload_n 0, 1) := by decide +kernel
theorem d_Ts_place_5 : decode b_Ts_place 5 = .ok (.getfield 28, 3) := by decide +kernel
theorem d_Ts_place_8 : decode b_Ts_place 8 = .ok (.iaload, 1) := by decide +kernel
theorem d_Ts_place_9 : decode b_Ts_place 9 = .ok (.ireturn, 1) := by decide +kernel

set_option maxHeartbeats 4000000 in
set_option maxRecDepth 100000 in
theorem k_place (l : Launch) (G : nn_G) (tk : Nat → Nat) (sz : Nat) (ad : Nat → Nat) (q : Nat → Option Nat) (pl vl : Nat → Int32) (tc ta : Nat) (h1 : tc ≤ 181) (h2 : ta < tc) (h3 : ∀ j, j < tc → ∃ i, i < 31 ∧ q j = some (tk i)) : Met l y_Ts_place w_Ts_place ({ frames := 0, cells := 0, slots := 0, locals := 0 }) (nz_PR G tk [.ref (ad 1)] [((ad 1), .inr (6, [.ref (ad 2), .ref (ad 3), .ref (ad 4), .int (nI tc), .int (nI ta)])), ((ad 2), .inl (G.2 3, 181, .inr (.inr (.inr (.inr (q)))))), ((ad 3), .inl (G.2 0, 181, .inl (pl))), ((ad 4), .inl (G.2 0, 181, .inl (vl)))] sz) (vp_Si (fun r => True)) 0 0 (fun _ => False) := by
  refine Met.ofW (cc := b_Ts_place) (maxL := 1) (ret := some .int) (by decide) rfl ?_
  intro p e s m args below meth c s₁ B hml hv
  obtain ⟨rfl, ⟨hsz, hP, hK, hD0, hN⟩, hE⟩ := hv
  have hx := B.exec
  have hb := B.bytes
  have hr := B.returns
  have hts := atoms_spec (ws := w_Ts_place) B.pre
  have hg : ∀ w ∈ nn_gw, w.before _ s = true := fun w h => hts w (List.mem_cons_of_mem _ h)
  have hown : s.vm.findClass R_Ts = some m.cls := findClass_of_methodNamed B.named
  have hlocks := B.notSynchronized
  subst hsz
  have hD := hD0
  generalize hAe : (fun _ : Nat => True) = A at hD
  have hA : ∀ q : Nat, s.heap.size ≤ q → A q := fun q h => by rw [← hAe]; trivial
  have hSE : va_S (fun _ => False) s.heap s.heap [] := va_S.rf
  have hS : va_S A s.heap s.heap [] := va_S.rf
  have hP : va_P G.1 nn_cls [((ad 1), .inr (6, [.ref (ad 2), .ref (ad 3), .ref (ad 4), .int (nI tc), .int (nI ta)])), ((ad 2), .inl (G.2 3, 181, .inr (.inr (.inr (.inr (q)))))), ((ad 3), .inl (G.2 0, 181, .inl (pl))), ((ad 4), .inl (G.2 0, 181, .inl (vl)))] s.heap := hP
  have hl := lv_entry ([.ref (ad 1)]) (n := 1) (Nat.le_of_ble_eq_true rfl)
  rw [lg_entry_eq]
  generalize (lg_sl ([.ref (ad 1)]) ++ List.replicate (1 - (lg_sl ([.ref (ad 1)])).length) Slot.unset).toArray = ls at hl ⊢
  have hl : lv_has ls 1 [(0, .ref (ad 1))] := hl
  refine lv_aload_n hx hb d_Ts_place_0 rfl (lv_at hl 0 rfl) ?_
  refine va_get (D := G.1) (ci := 6) (v := .ref (ad 3)) (C := R_Ts) (T := T_Ts) (N := 5) hx hb hg in_Ts hown hK hP 0 rfl rfl 1 (by decide) (hg _ mw_132) (fun _ h9 => h9) rfl d_Ts_place_1 ?_
  refine lv_aload_n hx hb d_Ts_place_4 rfl (lv_at hl 0 rfl) ?_
  refine va_get (D := G.1) (ci := 6) (v := .int (nI ta)) (C := R_Ts) (T := T_Ts) (N := 5) hx hb hg in_Ts hown hK hP 0 rfl rfl 4 (by decide) (hg _ mw_135) (fun _ h9 => h9) rfl d_Ts_place_5 ?_
  refine va_iald hx hb hK hP 2 0 rfl rfl (vp_in_nI (show ta < 181 by omega) (by decide)) d_Ts_place_8 ?_
  exact W.iret (v := (pl) (nI ta).toNatClampNeg) hx hb hr (fun t ht hW => ⟨(pl) (nI ta).toNatClampNeg, rfl, trivial, ht⟩) (fun q h => by cases h) d_Ts_place_9

theorem mw_133 : (.fieldLink R_Ts 21 R_Ts "values" "[I" : Cond) ∈ nn_gw := nn_at 133 (by decide +kernel) (by decide +kernel)
theorem d_Ts_value_0 : decode b_Ts_value 0 = .ok (.aload_n 0, 1) := by decide +kernel
theorem d_Ts_value_1 : decode b_Ts_value 1 = .ok (.getfield 21, 3) := by decide +kernel
theorem d_Ts_value_4 : decode b_Ts_value 4 = .ok (.aload_n 0, 1) := by decide +kernel
theorem d_Ts_value_5 : decode b_Ts_value 5 = .ok (.getfield 28, 3) := by decide +kernel
theorem d_Ts_value_8 : decode b_Ts_value 8 = .ok (.iaload, 1) := by decide +kernel
theorem d_Ts_value_9 : decode b_Ts_value 9 = .ok (.ireturn, 1) := by decide +kernel

set_option maxHeartbeats 4000000 in
set_option maxRecDepth 100000 in
theorem k_value (l : Launch) (G : nn_G) (tk : Nat → Nat) (sz : Nat) (ad : Nat → Nat) (q : Nat → Option Nat) (pl vl : Nat → Int32) (tc ta : Nat) (h1 : tc ≤ 181) (h2 : ta < tc) (h3 : ∀ j, j < tc → ∃ i, i < 31 ∧ q j = some (tk i)) : Met l y_Ts_value w_Ts_value ({ frames := 0, cells := 0, slots := 0, locals := 0 }) (nz_PR G tk [.ref (ad 1)] [((ad 1), .inr (6, [.ref (ad 2), .ref (ad 3), .ref (ad 4), .int (nI tc), .int (nI ta)])), ((ad 2), .inl (G.2 3, 181, .inr (.inr (.inr (.inr (q)))))), ((ad 3), .inl (G.2 0, 181, .inl (pl))), ((ad 4), .inl (G.2 0, 181, .inl (vl)))] sz) (vp_Si (fun r => True)) 0 0 (fun _ => False) := by
  refine Met.ofW (cc := b_Ts_value) (maxL := 1) (ret := some .int) (by decide) rfl ?_
  intro p e s m args below meth c s₁ B hml hv
  obtain ⟨rfl, ⟨hsz, hP, hK, hD0, hN⟩, hE⟩ := hv
  have hx := B.exec
  have hb := B.bytes
  have hr := B.returns
  have hts := atoms_spec (ws := w_Ts_value) B.pre
  have hg : ∀ w ∈ nn_gw, w.before _ s = true := fun w h => hts w (List.mem_cons_of_mem _ h)
  have hown : s.vm.findClass R_Ts = some m.cls := findClass_of_methodNamed B.named
  have hlocks := B.notSynchronized
  subst hsz
  have hD := hD0
  generalize hAe : (fun _ : Nat => True) = A at hD
  have hA : ∀ q : Nat, s.heap.size ≤ q → A q := fun q h => by rw [← hAe]; trivial
  have hSE : va_S (fun _ => False) s.heap s.heap [] := va_S.rf
  have hS : va_S A s.heap s.heap [] := va_S.rf
  have hP : va_P G.1 nn_cls [((ad 1), .inr (6, [.ref (ad 2), .ref (ad 3), .ref (ad 4), .int (nI tc), .int (nI ta)])), ((ad 2), .inl (G.2 3, 181, .inr (.inr (.inr (.inr (q)))))), ((ad 3), .inl (G.2 0, 181, .inl (pl))), ((ad 4), .inl (G.2 0, 181, .inl (vl)))] s.heap := hP
  have hl := lv_entry ([.ref (ad 1)]) (n := 1) (Nat.le_of_ble_eq_true rfl)
  rw [lg_entry_eq]
  generalize (lg_sl ([.ref (ad 1)]) ++ List.replicate (1 - (lg_sl ([.ref (ad 1)])).length) Slot.unset).toArray = ls at hl ⊢
  have hl : lv_has ls 1 [(0, .ref (ad 1))] := hl
  refine lv_aload_n hx hb d_Ts_value_0 rfl (lv_at hl 0 rfl) ?_
  refine va_get (D := G.1) (ci := 6) (v := .ref (ad 4)) (C := R_Ts) (T := T_Ts) (N := 5) hx hb hg in_Ts hown hK hP 0 rfl rfl 2 (by decide) (hg _ mw_133) (fun _ h9 => h9) rfl d_Ts_value_1 ?_
  refine lv_aload_n hx hb d_Ts_value_4 rfl (lv_at hl 0 rfl) ?_
  refine va_get (D := G.1) (ci := 6) (v := .int (nI ta)) (C := R_Ts) (T := T_Ts) (N := 5) hx hb hg in_Ts hown hK hP 0 rfl rfl 4 (by decide) (hg _ mw_135) (fun _ h9 => h9) rfl d_Ts_value_5 ?_
  refine va_iald hx hb hK hP 3 0 rfl rfl (vp_in_nI (show ta < 181 by omega) (by decide)) d_Ts_value_8 ?_
  exact W.iret (v := (vl) (nI ta).toNatClampNeg) hx hb hr (fun t ht hW => ⟨(vl) (nI ta).toNatClampNeg, rfl, trivial, ht⟩) (fun q h => by cases h) d_Ts_value_9

theorem d_Ts_advance_0 : decode b_Ts_advance 0 = .ok (.aload_n 0, 1) := by decide +kernel
theorem d_Ts_advance_1 : decode b_Ts_advance 1 = .ok (.getfield 28, 3) := by decide +kernel
theorem d_Ts_advance_4 : decode b_Ts_advance 4 = .ok (.iconst 1, 1) := by decide +kernel
theorem d_Ts_advance_5 : decode b_Ts_advance 5 = .ok (.iadd, 1) := by decide +kernel
theorem d_Ts_advance_6 : decode b_Ts_advance 6 = .ok (.aload_n 0, 1) := by decide +kernel
theorem d_Ts_advance_7 : decode b_Ts_advance 7 = .ok (.getfield 24, 3) := by decide +kernel
theorem d_Ts_advance_10 : decode b_Ts_advance 10 = .ok (.if_icmp .ge 13, 3) := by decide +kernel
theorem d_Ts_advance_13 : decode b_Ts_advance 13 = .ok (.aload_n 0, 1) := by decide +kernel
theorem d_Ts_advance_14 : decode b_Ts_advance 14 = .ok (.dup, 1) := by decide +kernel
theorem d_Ts_advance_15 : decode b_Ts_advance 15 = .ok (.getfield 28, 3) := by decide +kernel
theorem d_Ts_advance_18 : decode b_Ts_advance 18 = .ok (.iconst 1, 1) := by decide +kernel
theorem d_Ts_advance_19 : decode b_Ts_advance 19 = .ok (.iadd, 1) := by decide +kernel
theorem d_Ts_advance_20 : decode b_Ts_advance 20 = .ok (.putfield 28, 3) := by decide +kernel
theorem d_Ts_advance_23 : decode b_Ts_advance 23 = .ok (.return_, 1) := by decide +kernel

set_option maxHeartbeats 4000000 in
set_option maxRecDepth 100000 in
theorem k_advance (l : Launch) (G : nn_G) (tk : Nat → Nat) (sz : Nat) (ad : Nat → Nat) (q : Nat → Option Nat) (pl vl : Nat → Int32) (tc ta : Nat) (h1 : tc ≤ 181) (h2 : ta < tc) (h3 : ∀ j, j < tc → ∃ i, i < 31 ∧ q j = some (tk i)) : Met l y_Ts_advance w_Ts_advance ({ frames := 0, cells := 0, slots := 0, locals := 0 }) (nz_P G tk [.ref (ad 1)] [((ad 1), .inr (6, [.ref (ad 2), .ref (ad 3), .ref (ad 4), .int (nI tc), .int (nI ta)])), ((ad 2), .inl (G.2 3, 181, .inr (.inr (.inr (.inr (q)))))), ((ad 3), .inl (G.2 0, 181, .inl (pl))), ((ad 4), .inl (G.2 0, 181, .inl (vl)))] sz) (va_Qv (fun u : Nat => u < tc) (fun u t => va_P G.1 nn_cls [((ad 1), .inr (6, [.ref (ad 2), .ref (ad 3), .ref (ad 4), .int (nI tc), .int (nI u)])), ((ad 2), .inl (G.2 3, 181, .inr (.inr (.inr (.inr (q)))))), ((ad 3), .inl (G.2 0, 181, .inl (pl))), ((ad 4), .inl (G.2 0, 181, .inl (vl)))] t.heap ∧ va_D (va_A [((ad 1), .inr (6, [.ref (ad 2), .ref (ad 3), .ref (ad 4), .int (nI tc), .int (nI ta)])), ((ad 2), .inl (G.2 3, 181, .inr (.inr (.inr (.inr (q)))))), ((ad 3), .inl (G.2 0, 181, .inl (pl))), ((ad 4), .inl (G.2 0, 181, .inl (vl)))] sz) [((ad 1), .inr (6, [.ref (ad 2), .ref (ad 3), .ref (ad 4), .int (nI tc), .int (nI u)])), ((ad 2), .inl (G.2 3, 181, .inr (.inr (.inr (.inr (q)))))), ((ad 3), .inl (G.2 0, 181, .inl (pl))), ((ad 4), .inl (G.2 0, 181, .inl (vl)))]) (va_A [((ad 1), .inr (6, [.ref (ad 2), .ref (ad 3), .ref (ad 4), .int (nI tc), .int (nI ta)])), ((ad 2), .inl (G.2 3, 181, .inr (.inr (.inr (.inr (q)))))), ((ad 3), .inl (G.2 0, 181, .inl (pl))), ((ad 4), .inl (G.2 0, 181, .inl (vl)))] sz)) 0 0 (va_A [((ad 1), .inr (6, [.ref (ad 2), .ref (ad 3), .ref (ad 4), .int (nI tc), .int (nI ta)])), ((ad 2), .inl (G.2 3, 181, .inr (.inr (.inr (.inr (q)))))), ((ad 3), .inl (G.2 0, 181, .inl (pl))), ((ad 4), .inl (G.2 0, 181, .inl (vl)))] sz) := by
  refine Met.ofW (cc := b_Ts_advance) (maxL := 1) (ret := none) (by decide) rfl ?_
  intro p e s m args below meth c s₁ B hml hv
  obtain ⟨rfl, ⟨hsz, hP, hK, hD0, hN⟩, hE⟩ := hv
  have hx := B.exec
  have hb := B.bytes
  have hr := B.returns
  have hts := atoms_spec (ws := w_Ts_advance) B.pre
  have hg : ∀ w ∈ nn_gw, w.before _ s = true := fun w h => hts w (List.mem_cons_of_mem _ h)
  have hown : s.vm.findClass R_Ts = some m.cls := findClass_of_methodNamed B.named
  have hlocks := B.notSynchronized
  subst hsz
  have hD := hD0.self (sz := s.heap.size)
  generalize hAe : va_A [((ad 1), .inr (6, [.ref (ad 2), .ref (ad 3), .ref (ad 4), .int (nI tc), .int (nI ta)])), ((ad 2), .inl (G.2 3, 181, .inr (.inr (.inr (.inr (q)))))), ((ad 3), .inl (G.2 0, 181, .inl (pl))), ((ad 4), .inl (G.2 0, 181, .inl (vl)))] s.heap.size = A at hD hE ⊢
  have hA : ∀ q : Nat, s.heap.size ≤ q → A q := fun q h => by rw [← hAe]; exact Or.inr h
  have hS : va_S A s.heap s.heap [] := va_S.rf
  have hP : va_P G.1 nn_cls [((ad 1), .inr (6, [.ref (ad 2), .ref (ad 3), .ref (ad 4), .int (nI tc), .int (nI ta)])), ((ad 2), .inl (G.2 3, 181, .inr (.inr (.inr (.inr (q)))))), ((ad 3), .inl (G.2 0, 181, .inl (pl))), ((ad 4), .inl (G.2 0, 181, .inl (vl)))] s.heap := hP
  have hl := lv_entry ([.ref (ad 1)]) (n := 1) (Nat.le_of_ble_eq_true rfl)
  rw [lg_entry_eq]
  generalize (lg_sl ([.ref (ad 1)]) ++ List.replicate (1 - (lg_sl ([.ref (ad 1)])).length) Slot.unset).toArray = ls at hl ⊢
  have hl : lv_has ls 1 [(0, .ref (ad 1))] := hl
  refine lv_aload_n hx hb d_Ts_advance_0 rfl (lv_at hl 0 rfl) ?_
  refine va_get (D := G.1) (ci := 6) (v := .int (nI ta)) (C := R_Ts) (T := T_Ts) (N := 5) hx hb hg in_Ts hown hK hP 0 rfl rfl 4 (by decide) (hg _ mw_135) (fun _ h9 => h9) rfl d_Ts_advance_1 ?_
  refine lv_iconst (v := 1) hx hb d_Ts_advance_4 (by decide) ?_
  refine lv_iadd hx hb d_Ts_advance_5 ?_
  refine nb_top (nI (ta + 1)) (nI_1 ta) ?_
  refine lv_aload_n hx hb d_Ts_advance_6 rfl (lv_at hl 0 rfl) ?_
  refine va_get (D := G.1) (ci := 6) (v := .int (nI tc)) (C := R_Ts) (T := T_Ts) (N := 5) hx hb hg in_Ts hown hK hP 0 rfl rfl 3 (by decide) (hg _ mw_134) (fun _ h9 => h9) rfl d_Ts_advance_7 ?_
  refine lv_icmp_ge (tgt := 23) hx hb d_Ts_advance_10 rfl (fun hc10 => ?_) (fun hc10 => ?_)
  · skip
    refine W.widen (k := 0) (n := 0) (Nat.le_of_ble_eq_true rfl) (Nat.le_of_ble_eq_true rfl) ?_
    have hP9 := hP.sub (ws' := [((ad 1), .inr (6, [.ref (ad 2), .ref (ad 3), .ref (ad 4), .int (nI tc), .int (nI ta)])), ((ad 2), .inl (G.2 3, 181, .inr (.inr (.inr (.inr (q)))))), ((ad 3), .inl (G.2 0, 181, .inl (pl))), ((ad 4), .inl (G.2 0, 181, .inl (vl)))]) [0, 1, 2, 3] rfl
    have hD9 := hD.sub (ws' := [((ad 1), .inr (6, [.ref (ad 2), .ref (ad 3), .ref (ad 4), .int (nI tc), .int (nI ta)])), ((ad 2), .inl (G.2 3, 181, .inr (.inr (.inr (.inr (q)))))), ((ad 3), .inl (G.2 0, 181, .inl (pl))), ((ad 4), .inl (G.2 0, 181, .inl (vl)))]) [0, 1, 2, 3] (by decide) rfl
    exact W.vret hx hb hr (fun t ht hW => ⟨⟨ta, rfl, h2, ⟨by rw [ht]; exact hP9, hD9⟩⟩, hS.F ht⟩) hS.2.2 d_Ts_advance_23
  · skip
    refine lv_aload_n hx hb d_Ts_advance_13 rfl (lv_at hl 0 rfl) ?_
    refine lv_dup hx hb d_Ts_advance_14 rfl ?_
    refine va_get (D := G.1) (ci := 6) (v := .int (nI ta)) (C := R_Ts) (T := T_Ts) (N := 5) hx hb hg in_Ts hown hK hP 0 rfl rfl 4 (by decide) (hg _ mw_135) (fun _ h9 => h9) rfl d_Ts_advance_15 ?_
    refine lv_iconst (v := 1) hx hb d_Ts_advance_18 (by decide) ?_
    refine lv_iadd hx hb d_Ts_advance_19 ?_
    refine nb_top (nI (ta + 1)) (nI_1 ta) ?_
    refine va_put (D := G.1) (ci := 6) (v := .int (nI (ta + 1))) (ty := .int) (C := R_Ts) (T := T_Ts) (N := 5) hx hb hg in_Ts t_Ts ok_Ts nm_Ts hown hK hP hD hS 0 rfl rfl 4 (by decide) (hg _ mw_135) (fun _ h9 => h9) rfl (by decide +kernel) rfl rfl (Nat.le_of_ble_eq_true rfl) d_Ts_advance_20 (fun H locs hP hD hS => ?_)
    have hP : va_P G.1 nn_cls [((ad 1), .inr (6, [.ref (ad 2), .ref (ad 3), .ref (ad 4), .int (nI tc), .int (nI (ta + 1))])), ((ad 2), .inl (G.2 3, 181, .inr (.inr (.inr (.inr (q)))))), ((ad 3), .inl (G.2 0, 181, .inl (pl))), ((ad 4), .inl (G.2 0, 181, .inl (vl)))] H := hP
    have hD : va_D A [((ad 1), .inr (6, [.ref (ad 2), .ref (ad 3), .ref (ad 4), .int (nI tc), .int (nI (ta + 1))])), ((ad 2), .inl (G.2 3, 181, .inr (.inr (.inr (.inr (q)))))), ((ad 3), .inl (G.2 0, 181, .inl (pl))), ((ad 4), .inl (G.2 0, 181, .inl (vl)))] := hD
    refine W.widen (k := 0) (n := 0) (Nat.le_of_ble_eq_true rfl) (Nat.le_of_ble_eq_true rfl) ?_
    have hP9 := hP.sub (ws' := [((ad 1), .inr (6, [.ref (ad 2), .ref (ad 3), .ref (ad 4), .int (nI tc), .int (nI (ta + 1))])), ((ad 2), .inl (G.2 3, 181, .inr (.inr (.inr (.inr (q)))))), ((ad 3), .inl (G.2 0, 181, .inl (pl))), ((ad 4), .inl (G.2 0, 181, .inl (vl)))]) [0, 1, 2, 3] rfl
    have hD9 := hD.sub (ws' := [((ad 1), .inr (6, [.ref (ad 2), .ref (ad 3), .ref (ad 4), .int (nI tc), .int (nI (ta + 1))])), ((ad 2), .inl (G.2 3, 181, .inr (.inr (.inr (.inr (q)))))), ((ad 3), .inl (G.2 0, 181, .inl (pl))), ((ad 4), .inl (G.2 0, 181, .inl (vl)))]) [0, 1, 2, 3] (by decide) rfl
    exact W.vret hx hb hr (fun t ht hW => ⟨⟨ta + 1, rfl, nz_nle hc10 (by omega), ⟨by rw [ht]; exact hP9, hD9⟩⟩, hS.F ht⟩) hS.2.2 d_Ts_advance_23

theorem nz_tup {tk : Nat → Nat} {q : Nat → Option Nat} {tc k : Nat} (hc : tc < 2 ^ 31) (h3 : ∀ j, j < tc → ∃ i, i < 31 ∧ q j = some (tk i)) (hk : k < 31) : ∀ j, j < tc + 1 → ∃ i, i < 31 ∧ va_up q (nI tc).toNatClampNeg (some (tk k)) j = some (tk i) := by
  intro j hj
  rw [nI_clamp hc]
  by_cases e : j = tc
  · exact ⟨k, hk, by rw [e]; simp [va_up]⟩
  · obtain ⟨i, h, g⟩ := h3 j (by omega)
    exact ⟨i, h, by simp [va_up, e, g]⟩

theorem d_Ts_add_0 : decode b_Ts_add 0 = .ok (.aload_n 0, 1) := by decide +kernel
theorem d_Ts_add_1 : decode b_Ts_add 1 = .ok (.getfield 24, 3) := by decide +kernel
theorem d_Ts_add_4 : decode b_Ts_add 4 = .ok (.sipush 181, 3) := by decide +kernel
theorem d_Ts_add_7 : decode b_Ts_add 7 = .ok (.if_icmp .ge 43, 3) := by decide +kernel
theorem d_Ts_add_10 : decode b_Ts_add 10 = .ok (.aload_n 0, 1) := by decide +kernel
theorem d_Ts_add_11 : decode b_Ts_add 11 = .ok (.getfield 13, 3) := by decide +kernel
theorem d_Ts_add_14 : decode b_Ts_add 14 = .ok (.aload_n 0, 1) := by decide +kernel
theorem d_Ts_add_15 : decode b_Ts_add 15 = .ok (.getfield 24, 3) := by decide +kernel
theorem d_Ts_add_18 : decode b_Ts_add 18 = .ok (.aload_n 1, 1) := by decide +kernel
theorem d_Ts_add_19 : decode b_Ts_add 19 = .ok (.aastore, 1) := by decide +kernel
theorem d_Ts_add_20 : decode b_Ts_add 20 = .ok (.aload_n 0, 1) := by decide +kernel
theorem d_Ts_add_21 : decode b_Ts_add 21 = .ok (.getfield 17, 3) := by decide +kernel
theorem d_Ts_add_24 : decode b_Ts_add 24 = .ok (.aload_n 0, 1) := by decide +kernel
theorem d_Ts_add_25 : decode b_Ts_add 25 = .ok (.getfield 24, 3) := by decide +kernel
theorem d_Ts_add_28 : decode b_Ts_add 28 = .ok (.iload_n 2, 1) := by decide +kernel
theorem d_Ts_add_29 : decode b_Ts_add 29 = .ok (.iastore, 1) := by decide +kernel
theorem d_Ts_add_30 : decode b_Ts_add 30 = .ok (.aload_n 0, 1) := by decide +kernel
theorem d_Ts_add_31 : decode b_Ts_add 31 = .ok (.getfield 21, 3) := by decide +kernel
theorem d_Ts_add_34 : decode b_Ts_add 34 = .ok (.aload_n 0, 1) := by decide +kernel
theorem d_Ts_add_35 : decode b_Ts_add 35 = .ok (.getfield 24, 3) := by decide +kernel
theorem d_Ts_add_38 : decode b_Ts_add 38 = .ok (.iload_n 3, 1) := by decide +kernel
theorem d_Ts_add_39 : decode b_Ts_add 39 = .ok (.iastore, 1) := by decide +kernel
theorem d_Ts_add_40 : decode b_Ts_add 40 = .ok (.aload_n 0, 1) := by decide +kernel
theorem d_Ts_add_41 : decode b_Ts_add 41 = .ok (.dup, 1) := by decide +kernel
theorem d_Ts_add_42 : decode b_Ts_add 42 = .ok (.getfield 24, 3) := by decide +kernel
theorem d_Ts_add_45 : decode b_Ts_add 45 = .ok (.iconst 1, 1) := by decide +kernel
theorem d_Ts_add_46 : decode b_Ts_add 46 = .ok (.iadd, 1) := by decide +kernel
theorem d_Ts_add_47 : decode b_Ts_add 47 = .ok (.putfield 24, 3) := by decide +kernel
theorem d_Ts_add_50 : decode b_Ts_add 50 = .ok (.return_, 1) := by decide +kernel

set_option maxHeartbeats 4000000 in
set_option maxRecDepth 100000 in
theorem k_add (l : Launch) (G : nn_G) (tk : Nat → Nat) (sz : Nat) (ad : Nat → Nat) (q : Nat → Option Nat) (pl vl : Nat → Int32) (tc ta : Nat) (k : Nat) (x y : Int32) (h1 : tc ≤ 181) (h3 : ∀ j, j < tc → ∃ i, i < 31 ∧ q j = some (tk i)) (hk : k < 31) : Met l y_Ts_add w_Ts_add ({ frames := 0, cells := 0, slots := 0, locals := 0 }) (nz_P G tk [.ref (ad 1), .ref (tk k), .int x, .int y] [((ad 1), .inr (6, [.ref (ad 2), .ref (ad 3), .ref (ad 4), .int (nI tc), .int (nI ta)])), ((ad 2), .inl (G.2 3, 181, .inr (.inr (.inr (.inr (q)))))), ((ad 3), .inl (G.2 0, 181, .inl (pl))), ((ad 4), .inl (G.2 0, 181, .inl (vl)))] sz) (va_Qv (fun u : (Nat → Option Nat) × (Nat → Int32) × (Nat → Int32) × Nat => 1 ≤ u.2.2.2 ∧ u.2.2.2 ≤ 181 ∧ ∀ j, j < u.2.2.2 → ∃ i, i < 31 ∧ u.1 j = some (tk i)) (fun u t => va_P G.1 nn_cls [((ad 1), .inr (6, [.ref (ad 2), .ref (ad 3), .ref (ad 4), .int (nI u.2.2.2), .int (nI ta)])), ((ad 2), .inl (G.2 3, 181, .inr (.inr (.inr (.inr (u.1)))))), ((ad 3), .inl (G.2 0, 181, .inl (u.2.1))), ((ad 4), .inl (G.2 0, 181, .inl (u.2.2.1)))] t.heap ∧ va_D (va_A [((ad 1), .inr (6, [.ref (ad 2), .ref (ad 3), .ref (ad 4), .int (nI tc), .int (nI ta)])), ((ad 2), .inl (G.2 3, 181, .inr (.inr (.inr (.inr (q)))))), ((ad 3), .inl (G.2 0, 181, .inl (pl))), ((ad 4), .inl (G.2 0, 181, .inl (vl)))] sz) [((ad 1), .inr (6, [.ref (ad 2), .ref (ad 3), .ref (ad 4), .int (nI u.2.2.2), .int (nI ta)])), ((ad 2), .inl (G.2 3, 181, .inr (.inr (.inr (.inr (u.1)))))), ((ad 3), .inl (G.2 0, 181, .inl (u.2.1))), ((ad 4), .inl (G.2 0, 181, .inl (u.2.2.1)))]) (va_A [((ad 1), .inr (6, [.ref (ad 2), .ref (ad 3), .ref (ad 4), .int (nI tc), .int (nI ta)])), ((ad 2), .inl (G.2 3, 181, .inr (.inr (.inr (.inr (q)))))), ((ad 3), .inl (G.2 0, 181, .inl (pl))), ((ad 4), .inl (G.2 0, 181, .inl (vl)))] sz)) 0 0 (va_A [((ad 1), .inr (6, [.ref (ad 2), .ref (ad 3), .ref (ad 4), .int (nI tc), .int (nI ta)])), ((ad 2), .inl (G.2 3, 181, .inr (.inr (.inr (.inr (q)))))), ((ad 3), .inl (G.2 0, 181, .inl (pl))), ((ad 4), .inl (G.2 0, 181, .inl (vl)))] sz) := by
  refine Met.ofW (cc := b_Ts_add) (maxL := 4) (ret := none) (by decide) rfl ?_
  intro p e s m args below meth c s₁ B hml hv
  obtain ⟨rfl, ⟨hsz, hP, hK, hD0, hN⟩, hE⟩ := hv
  have hx := B.exec
  have hb := B.bytes
  have hr := B.returns
  have hts := atoms_spec (ws := w_Ts_add) B.pre
  have hg : ∀ w ∈ nn_gw, w.before _ s = true := fun w h => hts w (List.mem_cons_of_mem _ h)
  have hown : s.vm.findClass R_Ts = some m.cls := findClass_of_methodNamed B.named
  have hlocks := B.notSynchronized
  subst hsz
  have hD := hD0.self (sz := s.heap.size)
  generalize hAe : va_A [((ad 1), .inr (6, [.ref (ad 2), .ref (ad 3), .ref (ad 4), .int (nI tc), .int (nI ta)])), ((ad 2), .inl (G.2 3, 181, .inr (.inr (.inr (.inr (q)))))), ((ad 3), .inl (G.2 0, 181, .inl (pl))), ((ad 4), .inl (G.2 0, 181, .inl (vl)))] s.heap.size = A at hD hE ⊢
  have hA : ∀ q : Nat, s.heap.size ≤ q → A q := fun q h => by rw [← hAe]; exact Or.inr h
  have hS : va_S A s.heap s.heap [] := va_S.rf
  have hP : va_P G.1 nn_cls [((ad 1), .inr (6, [.ref (ad 2), .ref (ad 3), .ref (ad 4), .int (nI tc), .int (nI ta)])), ((ad 2), .inl (G.2 3, 181, .inr (.inr (.inr (.inr (q)))))), ((ad 3), .inl (G.2 0, 181, .inl (pl))), ((ad 4), .inl (G.2 0, 181, .inl (vl)))] s.heap := hP
  have hl := lv_entry ([.ref (ad 1), .ref (tk k), .int x, .int y]) (n := 4) (Nat.le_of_ble_eq_true rfl)
  rw [lg_entry_eq]
  generalize (lg_sl ([.ref (ad 1), .ref (tk k), .int x, .int y]) ++ List.replicate (4 - (lg_sl ([.ref (ad 1), .ref (tk k), .int x, .int y])).length) Slot.unset).toArray = ls at hl ⊢
  have hl : lv_has ls 4 [(0, .ref (ad 1)), (1, .ref (tk k)), (2, .int x), (3, .int y)] := hl
  refine lv_aload_n hx hb d_Ts_add_0 rfl (lv_at hl 0 rfl) ?_
  refine va_get (D := G.1) (ci := 6) (v := .int (nI tc)) (C := R_Ts) (T := T_Ts) (N := 5) hx hb hg in_Ts hown hK hP 0 rfl rfl 3 (by decide) (hg _ mw_134) (fun _ h9 => h9) rfl d_Ts_add_1 ?_
  refine lv_sipush (v := 181) hx hb d_Ts_add_4 (by decide) ?_
  refine lv_icmp_ge (tgt := 50) hx hb d_Ts_add_7 rfl (fun hc7 => ?_) (fun hc7 => ?_)
  · skip
    refine W.widen (k := 0) (n := 0) (Nat.le_of_ble_eq_true rfl) (Nat.le_of_ble_eq_true rfl) ?_
    have hP9 := hP.sub (ws' := [((ad 1), .inr (6, [.ref (ad 2), .ref (ad 3), .ref (ad 4), .int (nI tc), .int (nI ta)])), ((ad 2), .inl (G.2 3, 181, .inr (.inr (.inr (.inr (q)))))), ((ad 3), .inl (G.2 0, 181, .inl (pl))), ((ad 4), .inl (G.2 0, 181, .inl (vl)))]) [0, 1, 2, 3] rfl
    have hD9 := hD.sub (ws' := [((ad 1), .inr (6, [.ref (ad 2), .ref (ad 3), .ref (ad 4), .int (nI tc), .int (nI ta)])), ((ad 2), .inl (G.2 3, 181, .inr (.inr (.inr (.inr (q)))))), ((ad 3), .inl (G.2 0, 181, .inl (pl))), ((ad 4), .inl (G.2 0, 181, .inl (vl)))]) [0, 1, 2, 3] (by decide) rfl
    exact W.vret hx hb hr (fun t ht hW => ⟨⟨(q, pl, vl, tc), rfl, ⟨by show 1 ≤ tc; have := nb_leI (a := 181) hc7 (by decide) (by omega); omega, h1, h3⟩, ⟨by rw [ht]; exact hP9, hD9⟩⟩, hS.F ht⟩) hS.2.2 d_Ts_add_50
  · skip
    refine lv_aload_n hx hb d_Ts_add_10 rfl (lv_at hl 0 rfl) ?_
    refine va_get (D := G.1) (ci := 6) (v := .ref (ad 2)) (C := R_Ts) (T := T_Ts) (N := 5) hx hb hg in_Ts hown hK hP 0 rfl rfl 0 (by decide) (hg _ mw_131) (fun _ h9 => h9) rfl d_Ts_add_11 ?_
    refine lv_aload_n hx hb d_Ts_add_14 rfl (lv_at hl 0 rfl) ?_
    refine va_get (D := G.1) (ci := 6) (v := .int (nI tc)) (C := R_Ts) (T := T_Ts) (N := 5) hx hb hg in_Ts hown hK hP 0 rfl rfl 3 (by decide) (hg _ mw_134) (fun _ h9 => h9) rfl d_Ts_add_15 ?_
    refine lv_aload_n hx hb d_Ts_add_18 rfl (lv_at hl 1 rfl) ?_
    refine va_astqM (E := "NestPascal$Token") hx hb hK hP hD hS 1 3 rfl rfl (nz_any hE hS hk) (vp_in_nI (show tc < 181 from nz_nle (b := 181) hc7 (by omega)) (by decide)) d_Ts_add_19 (fun H locs hP hD hS => ?_)
    have hP : va_P G.1 nn_cls [((ad 1), .inr (6, [.ref (ad 2), .ref (ad 3), .ref (ad 4), .int (nI tc), .int (nI ta)])), ((ad 2), .inl (G.2 3, 181, .inr (.inr (.inr (.inr (va_up q (nI tc).toNatClampNeg (some (tk k)))))))), ((ad 3), .inl (G.2 0, 181, .inl (pl))), ((ad 4), .inl (G.2 0, 181, .inl (vl)))] H := hP
    have hD : va_D A [((ad 1), .inr (6, [.ref (ad 2), .ref (ad 3), .ref (ad 4), .int (nI tc), .int (nI ta)])), ((ad 2), .inl (G.2 3, 181, .inr (.inr (.inr (.inr (va_up q (nI tc).toNatClampNeg (some (tk k)))))))), ((ad 3), .inl (G.2 0, 181, .inl (pl))), ((ad 4), .inl (G.2 0, 181, .inl (vl)))] := hD
    refine lv_aload_n hx hb d_Ts_add_20 rfl (lv_at hl 0 rfl) ?_
    refine va_get (D := G.1) (ci := 6) (v := .ref (ad 3)) (C := R_Ts) (T := T_Ts) (N := 5) hx hb hg in_Ts hown hK hP 0 rfl rfl 1 (by decide) (hg _ mw_132) (fun _ h9 => h9) rfl d_Ts_add_21 ?_
    refine lv_aload_n hx hb d_Ts_add_24 rfl (lv_at hl 0 rfl) ?_
    refine va_get (D := G.1) (ci := 6) (v := .int (nI tc)) (C := R_Ts) (T := T_Ts) (N := 5) hx hb hg in_Ts hown hK hP 0 rfl rfl 3 (by decide) (hg _ mw_134) (fun _ h9 => h9) rfl d_Ts_add_25 ?_
    refine lv_iload_n hx hb d_Ts_add_28 rfl (lv_at hl 2 rfl) ?_
    refine va_iast hx hb hK hP hD hS 2 0 rfl rfl (vp_in_nI (show tc < 181 from nz_nle (b := 181) hc7 (by omega)) (by decide)) d_Ts_add_29 (fun H locs hP hD hS => ?_)
    have hP : va_P G.1 nn_cls [((ad 1), .inr (6, [.ref (ad 2), .ref (ad 3), .ref (ad 4), .int (nI tc), .int (nI ta)])), ((ad 2), .inl (G.2 3, 181, .inr (.inr (.inr (.inr (va_up q (nI tc).toNatClampNeg (some (tk k)))))))), ((ad 3), .inl (G.2 0, 181, .inl (upd (pl) (nI tc).toNatClampNeg x))), ((ad 4), .inl (G.2 0, 181, .inl (vl)))] H := hP
    have hD : va_D A [((ad 1), .inr (6, [.ref (ad 2), .ref (ad 3), .ref (ad 4), .int (nI tc), .int (nI ta)])), ((ad 2), .inl (G.2 3, 181, .inr (.inr (.inr (.inr (va_up q (nI tc).toNatClampNeg (some (tk k)))))))), ((ad 3), .inl (G.2 0, 181, .inl (upd (pl) (nI tc).toNatClampNeg x))), ((ad 4), .inl (G.2 0, 181, .inl (vl)))] := hD
    refine lv_aload_n hx hb d_Ts_add_30 rfl (lv_at hl 0 rfl) ?_
    refine va_get (D := G.1) (ci := 6) (v := .ref (ad 4)) (C := R_Ts) (T := T_Ts) (N := 5) hx hb hg in_Ts hown hK hP 0 rfl rfl 2 (by decide) (hg _ mw_133) (fun _ h9 => h9) rfl d_Ts_add_31 ?_
    refine lv_aload_n hx hb d_Ts_add_34 rfl (lv_at hl 0 rfl) ?_
    refine va_get (D := G.1) (ci := 6) (v := .int (nI tc)) (C := R_Ts) (T := T_Ts) (N := 5) hx hb hg in_Ts hown hK hP 0 rfl rfl 3 (by decide) (hg _ mw_134) (fun _ h9 => h9) rfl d_Ts_add_35 ?_
    refine lv_iload_n hx hb d_Ts_add_38 rfl (lv_at hl 3 rfl) ?_
    refine va_iast hx hb hK hP hD hS 3 0 rfl rfl (vp_in_nI (show tc < 181 from nz_nle (b := 181) hc7 (by omega)) (by decide)) d_Ts_add_39 (fun H locs hP hD hS => ?_)
    have hP : va_P G.1 nn_cls [((ad 1), .inr (6, [.ref (ad 2), .ref (ad 3), .ref (ad 4), .int (nI tc), .int (nI ta)])), ((ad 2), .inl (G.2 3, 181, .inr (.inr (.inr (.inr (va_up q (nI tc).toNatClampNeg (some (tk k)))))))), ((ad 3), .inl (G.2 0, 181, .inl (upd (pl) (nI tc).toNatClampNeg x))), ((ad 4), .inl (G.2 0, 181, .inl (upd (vl) (nI tc).toNatClampNeg y)))] H := hP
    have hD : va_D A [((ad 1), .inr (6, [.ref (ad 2), .ref (ad 3), .ref (ad 4), .int (nI tc), .int (nI ta)])), ((ad 2), .inl (G.2 3, 181, .inr (.inr (.inr (.inr (va_up q (nI tc).toNatClampNeg (some (tk k)))))))), ((ad 3), .inl (G.2 0, 181, .inl (upd (pl) (nI tc).toNatClampNeg x))), ((ad 4), .inl (G.2 0, 181, .inl (upd (vl) (nI tc).toNatClampNeg y)))] := hD
    refine lv_aload_n hx hb d_Ts_add_40 rfl (lv_at hl 0 rfl) ?_
    refine lv_dup hx hb d_Ts_add_41 rfl ?_
    refine va_get (D := G.1) (ci := 6) (v := .int (nI tc)) (C := R_Ts) (T := T_Ts) (N := 5) hx hb hg in_Ts hown hK hP 0 rfl rfl 3 (by decide) (hg _ mw_134) (fun _ h9 => h9) rfl d_Ts_add_42 ?_
    refine lv_iconst (v := 1) hx hb d_Ts_add_45 (by decide) ?_
    refine lv_iadd hx hb d_Ts_add_46 ?_
    refine nb_top (nI (tc + 1)) (nI_1 tc) ?_
    refine va_put (D := G.1) (ci := 6) (v := .int (nI (tc + 1))) (ty := .int) (C := R_Ts) (T := T_Ts) (N := 5) hx hb hg in_Ts t_Ts ok_Ts nm_Ts hown hK hP hD hS 0 rfl rfl 3 (by decide) (hg _ mw_134) (fun _ h9 => h9) rfl (by decide +kernel) rfl rfl (Nat.le_of_ble_eq_true rfl) d_Ts_add_47 (fun H locs hP hD hS => ?_)
    have hP : va_P G.1 nn_cls [((ad 1), .inr (6, [.ref (ad 2), .ref (ad 3), .ref (ad 4), .int (nI (tc + 1)), .int (nI ta)])), ((ad 2), .inl (G.2 3, 181, .inr (.inr (.inr (.inr (va_up q (nI tc).toNatClampNeg (some (tk k)))))))), ((ad 3), .inl (G.2 0, 181, .inl (upd (pl) (nI tc).toNatClampNeg x))), ((ad 4), .inl (G.2 0, 181, .inl (upd (vl) (nI tc).toNatClampNeg y)))] H := hP
    have hD : va_D A [((ad 1), .inr (6, [.ref (ad 2), .ref (ad 3), .ref (ad 4), .int (nI (tc + 1)), .int (nI ta)])), ((ad 2), .inl (G.2 3, 181, .inr (.inr (.inr (.inr (va_up q (nI tc).toNatClampNeg (some (tk k)))))))), ((ad 3), .inl (G.2 0, 181, .inl (upd (pl) (nI tc).toNatClampNeg x))), ((ad 4), .inl (G.2 0, 181, .inl (upd (vl) (nI tc).toNatClampNeg y)))] := hD
    refine W.widen (k := 0) (n := 0) (Nat.le_of_ble_eq_true rfl) (Nat.le_of_ble_eq_true rfl) ?_
    have hP9 := hP.sub (ws' := [((ad 1), .inr (6, [.ref (ad 2), .ref (ad 3), .ref (ad 4), .int (nI (tc + 1)), .int (nI ta)])), ((ad 2), .inl (G.2 3, 181, .inr (.inr (.inr (.inr (va_up q (nI tc).toNatClampNeg (some (tk k)))))))), ((ad 3), .inl (G.2 0, 181, .inl (upd (pl) (nI tc).toNatClampNeg x))), ((ad 4), .inl (G.2 0, 181, .inl (upd (vl) (nI tc).toNatClampNeg y)))]) [0, 1, 2, 3] rfl
    have hD9 := hD.sub (ws' := [((ad 1), .inr (6, [.ref (ad 2), .ref (ad 3), .ref (ad 4), .int (nI (tc + 1)), .int (nI ta)])), ((ad 2), .inl (G.2 3, 181, .inr (.inr (.inr (.inr (va_up q (nI tc).toNatClampNeg (some (tk k)))))))), ((ad 3), .inl (G.2 0, 181, .inl (upd (pl) (nI tc).toNatClampNeg x))), ((ad 4), .inl (G.2 0, 181, .inl (upd (vl) (nI tc).toNatClampNeg y)))]) [0, 1, 2, 3] (by decide) rfl
    exact W.vret hx hb hr (fun t ht hW => ⟨⟨((va_up q (nI tc).toNatClampNeg (some (tk k))), (upd (pl) (nI tc).toNatClampNeg x), (upd (vl) (nI tc).toNatClampNeg y), tc + 1), rfl, ⟨by show 1 ≤ tc + 1; omega, by show tc + 1 ≤ 181; have := nz_nle (b := 181) hc7 (by omega); omega, nz_tup (by omega) h3 hk⟩, ⟨by rw [ht]; exact hP9, hD9⟩⟩, hS.F ht⟩) hS.2.2 d_Ts_add_50

theorem mw_5 : (.selects R_Ts y_Ts_add y_Ts_add : Cond) ∈ nn_gw := nn_at 5 (by decide +kernel) (by decide +kernel)
theorem mw_101 : (.initialized R_Mt : Cond) ∈ nn_gw := nn_at 101 (by decide +kernel) (by decide +kernel)
theorem mw_413 : (.methodLink R_Ts 31 y_Ts_endOfToken : Cond) ∈ nn_gw := nn_at 413 (by decide +kernel) (by decide +kernel)
theorem mw_414 : (.static y_Ts_endOfToken : Cond) ∈ nn_gw := nn_at 414 (by decide +kernel) (by decide +kernel)
theorem mw_415 : (.code y_Ts_endOfToken b_Ts_endOfToken 4 (some .int) : Cond) ∈ nn_gw := nn_at 415 (by decide +kernel) (by decide +kernel)
theorem mw_422 : (.methodLink R_Ts 35 y_Ts_kindOf : Cond) ∈ nn_gw := nn_at 422 (by decide +kernel) (by decide +kernel)
theorem mw_423 : (.static y_Ts_kindOf : Cond) ∈ nn_gw := nn_at 423 (by decide +kernel) (by decide +kernel)
theorem mw_424 : (.code y_Ts_kindOf b_Ts_kindOf 4 (some (.object "NestPascal$Token")) : Cond) ∈ nn_gw := nn_at 424 (by decide +kernel) (by decide +kernel)
theorem mw_490 : (.methodLink R_Ts 39 y_Ts_valueOf : Cond) ∈ nn_gw := nn_at 490 (by decide +kernel) (by decide +kernel)
theorem mw_491 : (.static y_Ts_valueOf : Cond) ∈ nn_gw := nn_at 491 (by decide +kernel) (by decide +kernel)
theorem mw_492 : (.code y_Ts_valueOf b_Ts_valueOf 5 (some .int) : Cond) ∈ nn_gw := nn_at 492 (by decide +kernel) (by decide +kernel)
theorem mw_493 : (.methodLink R_Ts 42 y_Ts_add : Cond) ∈ nn_gw := nn_at 493 (by decide +kernel) (by decide +kernel)
theorem mw_495 : (.instanceMethod y_Ts_add : Cond) ∈ nn_gw := nn_at 495 (by decide +kernel) (by decide +kernel)
theorem mw_496 : (.code y_Ts_add b_Ts_add 4 none : Cond) ∈ nn_gw := nn_at 496 (by decide +kernel) (by decide +kernel)
theorem mw_497 : (.methodLink R_Ts 46 y_Mt_max : Cond) ∈ nn_gw := nn_at 497 (by decide +kernel) (by decide +kernel)
theorem mw_498 : (.static y_Mt_max : Cond) ∈ nn_gw := nn_at 498 (by decide +kernel) (by decide +kernel)
theorem mw_499 : (.code y_Mt_max b_Mt_max 2 (some .int) : Cond) ∈ nn_gw := nn_at 499 (by decide +kernel) (by decide +kernel)
theorem mw_500 : (.fieldLink R_Ts 52 R_To "TEXT_END" "LNestPascal$Token;" : Cond) ∈ nn_gw := nn_at 500 (by decide +kernel) (by decide +kernel)
theorem d_Ts_cut_0 : decode b_Ts_cut 0 = .ok (.aload_n 0, 1) := by decide +kernel
theorem d_Ts_cut_1 : decode b_Ts_cut 1 = .ok (.iconst 0, 1) := by decide +kernel
theorem d_Ts_cut_2 : decode b_Ts_cut 2 = .ok (.putfield 24, 3) := by decide +kernel
theorem d_Ts_cut_5 : decode b_Ts_cut 5 = .ok (.aload_n 0, 1) := by decide +kernel
theorem d_Ts_cut_6 : decode b_Ts_cut 6 = .ok (.iconst 0, 1) := by decide +kernel
theorem d_Ts_cut_7 : decode b_Ts_cut 7 = .ok (.putfield 28, 3) := by decide +kernel
theorem d_Ts_cut_10 : decode b_Ts_cut 10 = .ok (.iconst 0, 1) := by decide +kernel
theorem d_Ts_cut_11 : decode b_Ts_cut 11 = .ok (.istore_n 3, 1) := by decide +kernel
theorem d_Ts_cut_12 : decode b_Ts_cut 12 = .ok (.iload_n 3, 1) := by decide +kernel
theorem d_Ts_cut_13 : decode b_Ts_cut 13 = .ok (.iload_n 2, 1) := by decide +kernel
theorem d_Ts_cut_14 : decode b_Ts_cut 14 = .ok (.if_icmp .ge 50, 3) := by decide +kernel
theorem d_Ts_cut_17 : decode b_Ts_cut 17 = .ok (.aload_n 1, 1) := by decide +kernel
theorem d_Ts_cut_18 : decode b_Ts_cut 18 = .ok (.iload_n 3, 1) := by decide +kernel
theorem d_Ts_cut_19 : decode b_Ts_cut 19 = .ok (.iload_n 2, 1) := by decide +kernel
theorem d_Ts_cut_20 : decode b_Ts_cut 20 = .ok (.invokestatic 31, 3) := by decide +kernel
theorem d_Ts_cut_23 : decode b_Ts_cut 23 = .ok (.istore 4, 2) := by decide +kernel
theorem d_Ts_cut_25 : decode b_Ts_cut 25 = .ok (.aload_n 1, 1) := by decide +kernel
theorem d_Ts_cut_26 : decode b_Ts_cut 26 = .ok (.iload_n 3, 1) := by decide +kernel
theorem d_Ts_cut_27 : decode b_Ts_cut 27 = .ok (.caload, 1) := by decide +kernel
theorem d_Ts_cut_28 : decode b_Ts_cut 28 = .ok (.bipush 32, 2) := by decide +kernel
theorem d_Ts_cut_30 : decode b_Ts_cut 30 = .ok (.if_icmp .eq 22, 3) := by decide +kernel
theorem d_Ts_cut_33 : decode b_Ts_cut 33 = .ok (.aload_n 0, 1) := by decide +kernel
theorem d_Ts_cut_34 : decode b_Ts_cut 34 = .ok (.aload_n 1, 1) := by decide +kernel
theorem d_Ts_cut_35 : decode b_Ts_cut 35 = .ok (.iload_n 3, 1) := by decide +kernel
theorem d_Ts_cut_36 : decode b_Ts_cut 36 = .ok (.iload 4, 2) := by decide +kernel
theorem d_Ts_cut_38 : decode b_Ts_cut 38 = .ok (.invokestatic 35, 3) := by decide +kernel
theorem d_Ts_cut_41 : decode b_Ts_cut 41 = .ok (.iload_n 3, 1) := by decide +kernel
theorem d_Ts_cut_42 : decode b_Ts_cut 42 = .ok (.aload_n 1, 1) := by decide +kernel
theorem d_Ts_cut_43 : decode b_Ts_cut 43 = .ok (.iload_n 3, 1) := by decide +kernel
theorem d_Ts_cut_44 : decode b_Ts_cut 44 = .ok (.iload 4, 2) := by decide +kernel
theorem d_Ts_cut_46 : decode b_Ts_cut 46 = .ok (.invokestatic 39, 3) := by decide +kernel
theorem d_Ts_cut_49 : decode b_Ts_cut 49 = .ok (.invokevirtual 42, 3) := by decide +kernel
theorem d_Ts_cut_52 : decode b_Ts_cut 52 = .ok (.iload 4, 2) := by decide +kernel
theorem d_Ts_cut_54 : decode b_Ts_cut 54 = .ok (.iload_n 3, 1) := by decide +kernel
theorem d_Ts_cut_55 : decode b_Ts_cut 55 = .ok (.iconst 1, 1) := by decide +kernel
theorem d_Ts_cut_56 : decode b_Ts_cut 56 = .ok (.iadd, 1) := by decide +kernel
theorem d_Ts_cut_57 : decode b_Ts_cut 57 = .ok (.invokestatic 46, 3) := by decide +kernel
theorem d_Ts_cut_60 : decode b_Ts_cut 60 = .ok (.istore_n 3, 1) := by decide +kernel
theorem d_Ts_cut_61 : decode b_Ts_cut 61 = .ok (.goto (-49), 3) := by decide +kernel
theorem d_Ts_cut_64 : decode b_Ts_cut 64 = .ok (.aload_n 0, 1) := by decide +kernel
theorem d_Ts_cut_65 : decode b_Ts_cut 65 = .ok (.getstatic 52, 3) := by decide +kernel
theorem d_Ts_cut_68 : decode b_Ts_cut 68 = .ok (.iload_n 2, 1) := by decide +kernel
theorem d_Ts_cut_69 : decode b_Ts_cut 69 = .ok (.iconst 0, 1) := by decide +kernel
theorem d_Ts_cut_70 : decode b_Ts_cut 70 = .ok (.invokevirtual 42, 3) := by decide +kernel
theorem d_Ts_cut_73 : decode b_Ts_cut 73 = .ok (.return_, 1) := by decide +kernel

set_option maxHeartbeats 4000000 in
set_option maxRecDepth 100000 in
theorem k_cut (l : Launch) (G : nn_G) (tk : Nat → Nat) (sz : Nat) (ad : Nat → Nat) (q : Nat → Option Nat) (pl vl : Nat → Int32) (tc ta : Nat) (tx : Nat) (tf : Nat → Int32) (n : Nat) (hn8 : n ≤ 180) : Met l y_Ts_cut w_Ts_cut ({ frames := 7, cells := 0, slots := 0, locals := 156 }) (nz_P G tk [.ref (ad 1), .ref tx, .int (nI n)] [((ad 1), .inr (6, [.ref (ad 2), .ref (ad 3), .ref (ad 4), .int (nI tc), .int (nI ta)])), ((ad 2), .inl (G.2 3, 181, .inr (.inr (.inr (.inr (q)))))), ((ad 3), .inl (G.2 0, 181, .inl (pl))), ((ad 4), .inl (G.2 0, 181, .inl (vl))), (tx, .inl (G.2 1, 180, .inl (tf)))] sz) (va_Qv (fun u : (Nat → Option Nat) × (Nat → Int32) × (Nat → Int32) × Nat => 1 ≤ u.2.2.2 ∧ u.2.2.2 ≤ 181 ∧ ∀ j, j < u.2.2.2 → ∃ i, i < 31 ∧ u.1 j = some (tk i)) (fun u t => va_P G.1 nn_cls [((ad 1), .inr (6, [.ref (ad 2), .ref (ad 3), .ref (ad 4), .int (nI u.2.2.2), .int (nI 0)])), ((ad 2), .inl (G.2 3, 181, .inr (.inr (.inr (.inr (u.1)))))), ((ad 3), .inl (G.2 0, 181, .inl (u.2.1))), ((ad 4), .inl (G.2 0, 181, .inl (u.2.2.1))), (tx, .inl (G.2 1, 180, .inl (tf)))] t.heap ∧ va_D (va_A [((ad 1), .inr (6, [.ref (ad 2), .ref (ad 3), .ref (ad 4), .int (nI tc), .int (nI ta)])), ((ad 2), .inl (G.2 3, 181, .inr (.inr (.inr (.inr (q)))))), ((ad 3), .inl (G.2 0, 181, .inl (pl))), ((ad 4), .inl (G.2 0, 181, .inl (vl))), (tx, .inl (G.2 1, 180, .inl (tf)))] sz) [((ad 1), .inr (6, [.ref (ad 2), .ref (ad 3), .ref (ad 4), .int (nI u.2.2.2), .int (nI 0)])), ((ad 2), .inl (G.2 3, 181, .inr (.inr (.inr (.inr (u.1)))))), ((ad 3), .inl (G.2 0, 181, .inl (u.2.1))), ((ad 4), .inl (G.2 0, 181, .inl (u.2.2.1))), (tx, .inl (G.2 1, 180, .inl (tf)))]) (va_A [((ad 1), .inr (6, [.ref (ad 2), .ref (ad 3), .ref (ad 4), .int (nI tc), .int (nI ta)])), ((ad 2), .inl (G.2 3, 181, .inr (.inr (.inr (.inr (q)))))), ((ad 3), .inl (G.2 0, 181, .inl (pl))), ((ad 4), .inl (G.2 0, 181, .inl (vl))), (tx, .inl (G.2 1, 180, .inl (tf)))] sz)) 0 0 (va_A [((ad 1), .inr (6, [.ref (ad 2), .ref (ad 3), .ref (ad 4), .int (nI tc), .int (nI ta)])), ((ad 2), .inl (G.2 3, 181, .inr (.inr (.inr (.inr (q)))))), ((ad 3), .inl (G.2 0, 181, .inl (pl))), ((ad 4), .inl (G.2 0, 181, .inl (vl))), (tx, .inl (G.2 1, 180, .inl (tf)))] sz) := by
  refine Met.ofW (cc := b_Ts_cut) (maxL := 5) (ret := none) (by decide) rfl ?_
  intro p e s m args below meth c s₁ B hml hv
  obtain ⟨rfl, ⟨hsz, hP, hK, hD0, hN⟩, hE⟩ := hv
  have hx := B.exec
  have hb := B.bytes
  have hr := B.returns
  have hts := atoms_spec (ws := w_Ts_cut) B.pre
  have hg : ∀ w ∈ nn_gw, w.before _ s = true := fun w h => hts w (List.mem_cons_of_mem _ h)
  have hown : s.vm.findClass R_Ts = some m.cls := findClass_of_methodNamed B.named
  have hlocks := B.notSynchronized
  subst hsz
  have hD := hD0.self (sz := s.heap.size)
  generalize hAe : va_A [((ad 1), .inr (6, [.ref (ad 2), .ref (ad 3), .ref (ad 4), .int (nI tc), .int (nI ta)])), ((ad 2), .inl (G.2 3, 181, .inr (.inr (.inr (.inr (q)))))), ((ad 3), .inl (G.2 0, 181, .inl (pl))), ((ad 4), .inl (G.2 0, 181, .inl (vl))), (tx, .inl (G.2 1, 180, .inl (tf)))] s.heap.size = A at hD hE ⊢
  have hA : ∀ q : Nat, s.heap.size ≤ q → A q := fun q h => by rw [← hAe]; exact Or.inr h
  have hS : va_S A s.heap s.heap [] := va_S.rf
  have hP : va_P G.1 nn_cls [((ad 1), .inr (6, [.ref (ad 2), .ref (ad 3), .ref (ad 4), .int (nI tc), .int (nI ta)])), ((ad 2), .inl (G.2 3, 181, .inr (.inr (.inr (.inr (q)))))), ((ad 3), .inl (G.2 0, 181, .inl (pl))), ((ad 4), .inl (G.2 0, 181, .inl (vl))), (tx, .inl (G.2 1, 180, .inl (tf)))] s.heap := hP
  have hl := lv_entry ([.ref (ad 1), .ref tx, .int (nI n)]) (n := 5) (Nat.le_of_ble_eq_true rfl)
  rw [lg_entry_eq]
  generalize (lg_sl ([.ref (ad 1), .ref tx, .int (nI n)]) ++ List.replicate (5 - (lg_sl ([.ref (ad 1), .ref tx, .int (nI n)])).length) Slot.unset).toArray = ls at hl ⊢
  have hl : lv_has ls 5 [(0, .ref (ad 1)), (1, .ref tx), (2, .int (nI n))] := hl
  refine lv_aload_n hx hb d_Ts_cut_0 rfl (lv_at hl 0 rfl) ?_
  refine lv_iconst (v := 0) hx hb d_Ts_cut_1 (by decide) ?_
  refine va_put (D := G.1) (ci := 6) (v := .int 0) (ty := .int) (C := R_Ts) (T := T_Ts) (N := 5) hx hb hg in_Ts t_Ts ok_Ts nm_Ts hown hK hP hD hS 0 rfl rfl 3 (by decide) (hg _ mw_134) (fun _ h9 => h9) rfl (by decide +kernel) rfl rfl (Nat.le_of_ble_eq_true rfl) d_Ts_cut_2 (fun H locs hP hD hS => ?_)
  have hP : va_P G.1 nn_cls [((ad 1), .inr (6, [.ref (ad 2), .ref (ad 3), .ref (ad 4), .int 0, .int (nI ta)])), ((ad 2), .inl (G.2 3, 181, .inr (.inr (.inr (.inr (q)))))), ((ad 3), .inl (G.2 0, 181, .inl (pl))), ((ad 4), .inl (G.2 0, 181, .inl (vl))), (tx, .inl (G.2 1, 180, .inl (tf)))] H := hP
  have hD : va_D A [((ad 1), .inr (6, [.ref (ad 2), .ref (ad 3), .ref (ad 4), .int 0, .int (nI ta)])), ((ad 2), .inl (G.2 3, 181, .inr (.inr (.inr (.inr (q)))))), ((ad 3), .inl (G.2 0, 181, .inl (pl))), ((ad 4), .inl (G.2 0, 181, .inl (vl))), (tx, .inl (G.2 1, 180, .inl (tf)))] := hD
  refine lv_aload_n hx hb d_Ts_cut_5 rfl (lv_at hl 0 rfl) ?_
  refine lv_iconst (v := 0) hx hb d_Ts_cut_6 (by decide) ?_
  refine va_put (D := G.1) (ci := 6) (v := .int 0) (ty := .int) (C := R_Ts) (T := T_Ts) (N := 5) hx hb hg in_Ts t_Ts ok_Ts nm_Ts hown hK hP hD hS 0 rfl rfl 4 (by decide) (hg _ mw_135) (fun _ h9 => h9) rfl (by decide +kernel) rfl rfl (Nat.le_of_ble_eq_true rfl) d_Ts_cut_7 (fun H locs hP hD hS => ?_)
  have hP : va_P G.1 nn_cls [((ad 1), .inr (6, [.ref (ad 2), .ref (ad 3), .ref (ad 4), .int 0, .int 0])), ((ad 2), .inl (G.2 3, 181, .inr (.inr (.inr (.inr (q)))))), ((ad 3), .inl (G.2 0, 181, .inl (pl))), ((ad 4), .inl (G.2 0, 181, .inl (vl))), (tx, .inl (G.2 1, 180, .inl (tf)))] H := hP
  have hD : va_D A [((ad 1), .inr (6, [.ref (ad 2), .ref (ad 3), .ref (ad 4), .int 0, .int 0])), ((ad 2), .inl (G.2 3, 181, .inr (.inr (.inr (.inr (q)))))), ((ad 3), .inl (G.2 0, 181, .inl (pl))), ((ad 4), .inl (G.2 0, 181, .inl (vl))), (tx, .inl (G.2 1, 180, .inl (tf)))] := hD
  refine lv_iconst (v := 0) hx hb d_Ts_cut_10 (by decide) ?_
  refine lv_istore_n (lv' := [(3, .int 0), (0, .ref (ad 1)), (1, .ref tx), (2, .int (nI n))]) hx hb d_Ts_cut_11 rfl hl (by decide) rfl (fun ls hl => ?_)
  have hl := lv_sub (l' := [(3, .int 0), (0, .ref (ad 1)), (1, .ref tx), (2, .int (nI n))]) hl [0, 1, 2, 3] rfl
  have hP := hP.sub (ws' := [((ad 1), .inr (6, [.ref (ad 2), .ref (ad 3), .ref (ad 4), .int 0, .int 0])), ((ad 2), .inl (G.2 3, 181, .inr (.inr (.inr (.inr (q)))))), ((ad 3), .inl (G.2 0, 181, .inl (pl))), ((ad 4), .inl (G.2 0, 181, .inl (vl))), (tx, .inl (G.2 1, 180, .inl (tf)))]) [0, 1, 2, 3, 4] rfl
  have hD := hD.sub (ws' := [((ad 1), .inr (6, [.ref (ad 2), .ref (ad 3), .ref (ad 4), .int 0, .int 0])), ((ad 2), .inl (G.2 3, 181, .inr (.inr (.inr (.inr (q)))))), ((ad 3), .inl (G.2 0, 181, .inl (pl))), ((ad 4), .inl (G.2 0, 181, .inl (vl))), (tx, .inl (G.2 1, 180, .inl (tf)))]) [0, 1, 2, 3, 4] (by decide) rfl
  suffices loop : ∀ (j : Nat) (place : Nat) (q1 : Nat → Option Nat) (pl1 : Nat → Int32) (vl1 : Nat → Int32) (tc1 : Nat) (ls : Array Slot) (H : Heap) (locs : List Loc), n ≤ place + j → place ≤ n → tc1 ≤ 181 → (∀ j, j < tc1 → ∃ i, i < 31 ∧ q1 j = some (tk i)) → lv_has ls 5 [(3, .int (nI place)), (0, .ref (ad 1)), (1, .ref tx), (2, .int (nI n))] → va_P G.1 nn_cls [((ad 1), .inr (6, [.ref (ad 2), .ref (ad 3), .ref (ad 4), .int (nI tc1), .int (nI 0)])), ((ad 2), .inl (G.2 3, 181, .inr (.inr (.inr (.inr (q1)))))), ((ad 3), .inl (G.2 0, 181, .inl (pl1))), ((ad 4), .inl (G.2 0, 181, .inl (vl1))), (tx, .inl (G.2 1, 180, .inl (tf)))] H → va_D A [((ad 1), .inr (6, [.ref (ad 2), .ref (ad 3), .ref (ad 4), .int (nI tc1), .int (nI 0)])), ((ad 2), .inl (G.2 3, 181, .inr (.inr (.inr (.inr (q1)))))), ((ad 3), .inl (G.2 0, 181, .inl (pl1))), ((ad 4), .inl (G.2 0, 181, .inl (vl1))), (tx, .inl (G.2 1, 180, .inl (tf)))] → va_S A s.heap H locs → W p l e (headSpec w_Ts_cut ({ frames := 7, cells := 0, slots := 0, locals := 156 })).room s m [.ref (ad 1), .ref tx, .int (nI n)].toArray below meth c H locs 0 0 (MQ below (va_Qv (fun u : (Nat → Option Nat) × (Nat → Int32) × (Nat → Int32) × Nat => 1 ≤ u.2.2.2 ∧ u.2.2.2 ≤ 181 ∧ ∀ j, j < u.2.2.2 → ∃ i, i < 31 ∧ u.1 j = some (tk i)) (fun u t => va_P G.1 nn_cls [((ad 1), .inr (6, [.ref (ad 2), .ref (ad 3), .ref (ad 4), .int (nI u.2.2.2), .int (nI 0)])), ((ad 2), .inl (G.2 3, 181, .inr (.inr (.inr (.inr (u.1)))))), ((ad 3), .inl (G.2 0, 181, .inl (u.2.1))), ((ad 4), .inl (G.2 0, 181, .inl (u.2.2.1))), (tx, .inl (G.2 1, 180, .inl (tf)))] t.heap ∧ va_D A [((ad 1), .inr (6, [.ref (ad 2), .ref (ad 3), .ref (ad 4), .int (nI u.2.2.2), .int (nI 0)])), ((ad 2), .inl (G.2 3, 181, .inr (.inr (.inr (.inr (u.1)))))), ((ad 3), .inl (G.2 0, 181, .inl (u.2.1))), ((ad 4), .inl (G.2 0, 181, .inl (u.2.2.1))), (tx, .inl (G.2 1, 180, .inl (tf)))]) A) [.ref (ad 1), .ref tx, .int (nI n)].toArray s 0 0 A) (F0 m 12 ls []) by
    exact loop n 0 q pl vl 0 ls _ _ (by omega) (by omega) (by omega) (fun j hj => absurd hj (by omega)) hl hP hD hS
  intro j
  induction j with
  | zero =>
    intro place q1 pl1 vl1 tc1 ls H locs hp hpn ht1 h3x hl hP hD hS
    refine lv_iload_n hx hb d_Ts_cut_12 rfl (lv_at hl 0 rfl) ?_
    refine lv_iload_n hx hb d_Ts_cut_13 rfl (lv_at hl 3 rfl) ?_
    refine lv_icmp_ge (tgt := 64) hx hb d_Ts_cut_14 rfl (fun _ => ?_) (fun h => absurd (nI_le (by omega) (by omega)) h)
    refine lv_aload_n hx hb d_Ts_cut_64 rfl (lv_at hl 1 rfl) ?_
    refine va_gets hx hb (hE.2.1 29 (by decide)).1 hS hown (hg _ mw_500) (fun _ h9 => h9) d_Ts_cut_65 ?_
    refine lv_iload_n hx hb d_Ts_cut_68 rfl (lv_at hl 3 rfl) ?_
    refine lv_iconst (v := 0) hx hb d_Ts_cut_69 (by decide) ?_
    have hPc := hP.sub (ws' := [((ad 1), .inr (6, [.ref (ad 2), .ref (ad 3), .ref (ad 4), .int (nI tc1), .int (nI 0)])), ((ad 2), .inl (G.2 3, 181, .inr (.inr (.inr (.inr (q1)))))), ((ad 3), .inl (G.2 0, 181, .inl (pl1))), ((ad 4), .inl (G.2 0, 181, .inl (vl1)))]) [0, 1, 2, 3] rfl
    have hDc := hD.sub (ws' := [((ad 1), .inr (6, [.ref (ad 2), .ref (ad 3), .ref (ad 4), .int (nI tc1), .int (nI 0)])), ((ad 2), .inl (G.2 3, 181, .inr (.inr (.inr (.inr (q1)))))), ((ad 3), .inl (G.2 0, 181, .inl (pl1))), ((ad 4), .inl (G.2 0, 181, .inl (vl1)))]) [0, 1, 2, 3] (by decide) rfl
    have hFc := va_free (wc := [((ad 1), .inr (6, [.ref (ad 2), .ref (ad 3), .ref (ad 4), .int (nI tc1), .int (nI 0)])), ((ad 2), .inl (G.2 3, 181, .inr (.inr (.inr (.inr (q1)))))), ((ad 3), .inl (G.2 0, 181, .inl (pl1))), ((ad 4), .inl (G.2 0, 181, .inl (vl1)))]) hD hS hA [0, 1, 2, 3] rfl
    refine va_callv (va_runV (As := [.ref (tk 29), .int (nI n), .int 0]) (rest := []) ⟨hx, hb, hml, hown, hts⟩ (k_add l G tk _ ad q1 pl1 vl1 tc1 0 29 (nI n) 0 (by omega) h3x (by decide)) (cwV 3 hts (nn_gV mw_496 mw_493 mw_495 mw_5 mw_89) rfl rfl rfl (by decide +kernel) ⟨Nat.le_of_ble_eq_true rfl, Nat.le_of_ble_eq_true rfl⟩) (nz_preV (va_recv hK hP rfl (q0 := 0) rfl) hPc hDc hK hN hE hS hFc) rfl rfl hl.1 rfl (lv_room (Nat.le_of_ble_eq_true rfl)) d_Ts_cut_70 ⟨(Nat.le_of_ble_eq_true rfl), (Nat.le_of_ble_eq_true rfl)⟩) hS (fun q _ h => hFc q h) hFc (fun u1 t H locs ht hvm hw hB hz1 hk1 hS => ?_)
    obtain ⟨q2, v3, v4, n5⟩ := u1
    dsimp only at hB hw
    obtain ⟨h1n5, h2n5, h3n5⟩ := hw
    obtain ⟨hP1, hD1⟩ := hB
    rw [ht] at hP1
    obtain ⟨hP, hD⟩ := va_join (wr := [(tx, .inl (G.2 1, 180, .inl (tf)))]) (w1 := [((ad 1), .inr (6, [.ref (ad 2), .ref (ad 3), .ref (ad 4), .int (nI n5), .int (nI 0)])), ((ad 2), .inl (G.2 3, 181, .inr (.inr (.inr (.inr (q2)))))), ((ad 3), .inl (G.2 0, 181, .inl (v3))), ((ad 4), .inl (G.2 0, 181, .inl (v4)))]) hP hD [0, 1, 2, 3] [4] rfl rfl (by decide) (by decide) hk1 hFc hP1 hD1
    have hP : va_P G.1 nn_cls [(tx, .inl (G.2 1, 180, .inl (tf))), ((ad 1), .inr (6, [.ref (ad 2), .ref (ad 3), .ref (ad 4), .int (nI n5), .int (nI 0)])), ((ad 2), .inl (G.2 3, 181, .inr (.inr (.inr (.inr (q2)))))), ((ad 3), .inl (G.2 0, 181, .inl (v3))), ((ad 4), .inl (G.2 0, 181, .inl (v4)))] H := hP
    have hD : va_D A [(tx, .inl (G.2 1, 180, .inl (tf))), ((ad 1), .inr (6, [.ref (ad 2), .ref (ad 3), .ref (ad 4), .int (nI n5), .int (nI 0)])), ((ad 2), .inl (G.2 3, 181, .inr (.inr (.inr (.inr (q2)))))), ((ad 3), .inl (G.2 0, 181, .inl (v3))), ((ad 4), .inl (G.2 0, 181, .inl (v4)))] := hD
    refine W.widen (k := 0) (n := 0) (Nat.le_of_ble_eq_true rfl) (Nat.le_of_ble_eq_true rfl) ?_
    have hP9 := hP.sub (ws' := [((ad 1), .inr (6, [.ref (ad 2), .ref (ad 3), .ref (ad 4), .int (nI n5), .int (nI 0)])), ((ad 2), .inl (G.2 3, 181, .inr (.inr (.inr (.inr (q2)))))), ((ad 3), .inl (G.2 0, 181, .inl (v3))), ((ad 4), .inl (G.2 0, 181, .inl (v4))), (tx, .inl (G.2 1, 180, .inl (tf)))]) [1, 2, 3, 4, 0] rfl
    have hD9 := hD.sub (ws' := [((ad 1), .inr (6, [.ref (ad 2), .ref (ad 3), .ref (ad 4), .int (nI n5), .int (nI 0)])), ((ad 2), .inl (G.2 3, 181, .inr (.inr (.inr (.inr (q2)))))), ((ad 3), .inl (G.2 0, 181, .inl (v3))), ((ad 4), .inl (G.2 0, 181, .inl (v4))), (tx, .inl (G.2 1, 180, .inl (tf)))]) [1, 2, 3, 4, 0] (by decide) rfl
    exact W.vret hx hb hr (fun t ht hW => ⟨⟨(q2, v3, v4, n5), rfl, ⟨h1n5, h2n5, h3n5⟩, ⟨by rw [ht]; exact hP9, hD9⟩⟩, hS.F ht⟩) hS.2.2 d_Ts_cut_73
  | succ j ih =>
    intro place q1 pl1 vl1 tc1 ls H locs hp hpn ht1 h3x hl hP hD hS
    refine lv_iload_n hx hb d_Ts_cut_12 rfl (lv_at hl 0 rfl) ?_
    refine lv_iload_n hx hb d_Ts_cut_13 rfl (lv_at hl 3 rfl) ?_
    refine lv_icmp_ge (tgt := 64) hx hb d_Ts_cut_14 rfl (fun hc14 => ?_) (fun hc14 => ?_)
    · skip
      refine lv_aload_n hx hb d_Ts_cut_64 rfl (lv_at hl 1 rfl) ?_
      refine va_gets hx hb (hE.2.1 29 (by decide)).1 hS hown (hg _ mw_500) (fun _ h9 => h9) d_Ts_cut_65 ?_
      refine lv_iload_n hx hb d_Ts_cut_68 rfl (lv_at hl 3 rfl) ?_
      refine lv_iconst (v := 0) hx hb d_Ts_cut_69 (by decide) ?_
      have hPc := hP.sub (ws' := [((ad 1), .inr (6, [.ref (ad 2), .ref (ad 3), .ref (ad 4), .int (nI tc1), .int (nI 0)])), ((ad 2), .inl (G.2 3, 181, .inr (.inr (.inr (.inr (q1)))))), ((ad 3), .inl (G.2 0, 181, .inl (pl1))), ((ad 4), .inl (G.2 0, 181, .inl (vl1)))]) [0, 1, 2, 3] rfl
      have hDc := hD.sub (ws' := [((ad 1), .inr (6, [.ref (ad 2), .ref (ad 3), .ref (ad 4), .int (nI tc1), .int (nI 0)])), ((ad 2), .inl (G.2 3, 181, .inr (.inr (.inr (.inr (q1)))))), ((ad 3), .inl (G.2 0, 181, .inl (pl1))), ((ad 4), .inl (G.2 0, 181, .inl (vl1)))]) [0, 1, 2, 3] (by decide) rfl
      have hFc := va_free (wc := [((ad 1), .inr (6, [.ref (ad 2), .ref (ad 3), .ref (ad 4), .int (nI tc1), .int (nI 0)])), ((ad 2), .inl (G.2 3, 181, .inr (.inr (.inr (.inr (q1)))))), ((ad 3), .inl (G.2 0, 181, .inl (pl1))), ((ad 4), .inl (G.2 0, 181, .inl (vl1)))]) hD hS hA [0, 1, 2, 3] rfl
      refine va_callv (va_runV (As := [.ref (tk 29), .int (nI n), .int 0]) (rest := []) ⟨hx, hb, hml, hown, hts⟩ (k_add l G tk _ ad q1 pl1 vl1 tc1 0 29 (nI n) 0 (by omega) h3x (by decide)) (cwV 3 hts (nn_gV mw_496 mw_493 mw_495 mw_5 mw_89) rfl rfl rfl (by decide +kernel) ⟨Nat.le_of_ble_eq_true rfl, Nat.le_of_ble_eq_true rfl⟩) (nz_preV (va_recv hK hP rfl (q0 := 0) rfl) hPc hDc hK hN hE hS hFc) rfl rfl hl.1 rfl (lv_room (Nat.le_of_ble_eq_true rfl)) d_Ts_cut_70 ⟨(Nat.le_of_ble_eq_true rfl), (Nat.le_of_ble_eq_true rfl)⟩) hS (fun q _ h => hFc q h) hFc (fun u6 t H locs ht hvm hw hB hz1 hk1 hS => ?_)
      obtain ⟨q7, v8, v9, n10⟩ := u6
      dsimp only at hB hw
      obtain ⟨h1n10, h2n10, h3n10⟩ := hw
      obtain ⟨hP1, hD1⟩ := hB
      rw [ht] at hP1
      obtain ⟨hP, hD⟩ := va_join (wr := [(tx, .inl (G.2 1, 180, .inl (tf)))]) (w1 := [((ad 1), .inr (6, [.ref (ad 2), .ref (ad 3), .ref (ad 4), .int (nI n10), .int (nI 0)])), ((ad 2), .inl (G.2 3, 181, .inr (.inr (.inr (.inr (q7)))))), ((ad 3), .inl (G.2 0, 181, .inl (v8))), ((ad 4), .inl (G.2 0, 181, .inl (v9)))]) hP hD [0, 1, 2, 3] [4] rfl rfl (by decide) (by decide) hk1 hFc hP1 hD1
      have hP : va_P G.1 nn_cls [(tx, .inl (G.2 1, 180, .inl (tf))), ((ad 1), .inr (6, [.ref (ad 2), .ref (ad 3), .ref (ad 4), .int (nI n10), .int (nI 0)])), ((ad 2), .inl (G.2 3, 181, .inr (.inr (.inr (.inr (q7)))))), ((ad 3), .inl (G.2 0, 181, .inl (v8))), ((ad 4), .inl (G.2 0, 181, .inl (v9)))] H := hP
      have hD : va_D A [(tx, .inl (G.2 1, 180, .inl (tf))), ((ad 1), .inr (6, [.ref (ad 2), .ref (ad 3), .ref (ad 4), .int (nI n10), .int (nI 0)])), ((ad 2), .inl (G.2 3, 181, .inr (.inr (.inr (.inr (q7)))))), ((ad 3), .inl (G.2 0, 181, .inl (v8))), ((ad 4), .inl (G.2 0, 181, .inl (v9)))] := hD
      refine W.widen (k := 0) (n := 0) (Nat.le_of_ble_eq_true rfl) (Nat.le_of_ble_eq_true rfl) ?_
      have hP9 := hP.sub (ws' := [((ad 1), .inr (6, [.ref (ad 2), .ref (ad 3), .ref (ad 4), .int (nI n10), .int (nI 0)])), ((ad 2), .inl (G.2 3, 181, .inr (.inr (.inr (.inr (q7)))))), ((ad 3), .inl (G.2 0, 181, .inl (v8))), ((ad 4), .inl (G.2 0, 181, .inl (v9))), (tx, .inl (G.2 1, 180, .inl (tf)))]) [1, 2, 3, 4, 0] rfl
      have hD9 := hD.sub (ws' := [((ad 1), .inr (6, [.ref (ad 2), .ref (ad 3), .ref (ad 4), .int (nI n10), .int (nI 0)])), ((ad 2), .inl (G.2 3, 181, .inr (.inr (.inr (.inr (q7)))))), ((ad 3), .inl (G.2 0, 181, .inl (v8))), ((ad 4), .inl (G.2 0, 181, .inl (v9))), (tx, .inl (G.2 1, 180, .inl (tf)))]) [1, 2, 3, 4, 0] (by decide) rfl
      exact W.vret hx hb hr (fun t ht hW => ⟨⟨(q7, v8, v9, n10), rfl, ⟨h1n10, h2n10, h3n10⟩, ⟨by rw [ht]; exact hP9, hD9⟩⟩, hS.F ht⟩) hS.2.2 d_Ts_cut_73
    · skip
      refine lv_aload_n hx hb d_Ts_cut_17 rfl (lv_at hl 2 rfl) ?_
      refine lv_iload_n hx hb d_Ts_cut_18 rfl (lv_at hl 0 rfl) ?_
      refine lv_iload_n hx hb d_Ts_cut_19 rfl (lv_at hl 3 rfl) ?_
      have hPc := hP.sub (ws' := [(tx, .inl (G.2 1, 180, .inl (tf)))]) [4] rfl
      have hDc := hD.sub (ws' := [(tx, .inl (G.2 1, 180, .inl (tf)))]) [4] (by decide) rfl
      have hFc := va_free (wc := [(tx, .inl (G.2 1, 180, .inl (tf)))]) hD hS hA [4] rfl
      refine vp_callSi (va_Run.run (va_runS (As := [.ref tx, .int (nI place), .int (nI n)]) (rest := []) ⟨hx, hb, hml, hown, hts⟩ (k_endOfToken l G tk _ tx tf place n (nz_nle hc14 (by omega)) hn8) (va_cwS 3 hts (nn_gS mw_415 mw_413 mw_414 mw_89) rfl rfl rfl (by decide +kernel) ⟨Nat.le_of_ble_eq_true rfl, Nat.le_of_ble_eq_true rfl⟩) (nz_preSR hPc hDc hK hN hE hS) rfl rfl hl.1 rfl (lv_room (Nat.le_of_ble_eq_true rfl)) d_Ts_cut_20 ⟨(Nat.le_of_ble_eq_true rfl), (Nat.le_of_ble_eq_true rfl)⟩)) (fun r11 er11 => ?_)
      obtain ⟨e12, rfl, hxe12, hye12⟩ := er11
      refine lv_istore (lv' := [(4, .int (nI e12)), (3, .int (nI place)), (0, .ref (ad 1)), (1, .ref tx), (2, .int (nI n))]) hx hb d_Ts_cut_23 hl (by decide) rfl (fun ls hl => ?_)
      refine lv_aload_n hx hb d_Ts_cut_25 rfl (lv_at hl 3 rfl) ?_
      refine lv_iload_n hx hb d_Ts_cut_26 rfl (lv_at hl 1 rfl) ?_
      refine va_cald hx hb hK hP 4 1 rfl rfl (vp_in_nI (show place < 180 by have := nz_nle hc14 (by omega); omega) (by decide)) d_Ts_cut_27 ?_
      refine lv_bipush (v := 32) hx hb d_Ts_cut_28 (by decide) ?_
      refine lv_icmp_eq (tgt := 52) hx hb d_Ts_cut_30 rfl (fun hc30 => ?_) (fun hc30 => ?_)
      · skip
        refine lv_iload hx hb d_Ts_cut_52 (lv_at hl 0 rfl) ?_
        refine lv_iload_n hx hb d_Ts_cut_54 rfl (lv_at hl 1 rfl) ?_
        refine lv_iconst (v := 1) hx hb d_Ts_cut_55 (by decide) ?_
        refine lv_iadd hx hb d_Ts_cut_56 ?_
        refine nb_top (nI (place + 1)) (nI_1 place) ?_
        refine va_mmax hx hb (hml.trans hl.1.symm) hown (hg _ mw_497) (hg _ mw_498) (hg _ mw_101) (hg _ mw_499) (Nat.le_of_ble_eq_true rfl) (Nat.le_of_ble_eq_true rfl) (Nat.zero_le _) (Nat.zero_le _) d_Ts_cut_57 ?_
        refine nb_top (nI e12) (nz_max (by omega) (by omega)) ?_
        refine lv_istore_n (lv' := [(3, .int (nI e12)), (4, .int (nI e12)), (0, .ref (ad 1)), (1, .ref tx), (2, .int (nI n))]) hx hb d_Ts_cut_60 rfl hl (by decide) rfl (fun ls hl => ?_)
        refine lv_goto (tgt := 12) hx hb d_Ts_cut_61 rfl ?_
        have hl := lv_sub (l' := [(3, .int (nI e12)), (0, .ref (ad 1)), (1, .ref tx), (2, .int (nI n))]) hl [0, 2, 3, 4] rfl
        have hP := hP.sub (ws' := [((ad 1), .inr (6, [.ref (ad 2), .ref (ad 3), .ref (ad 4), .int (nI tc1), .int (nI 0)])), ((ad 2), .inl (G.2 3, 181, .inr (.inr (.inr (.inr (q1)))))), ((ad 3), .inl (G.2 0, 181, .inl (pl1))), ((ad 4), .inl (G.2 0, 181, .inl (vl1))), (tx, .inl (G.2 1, 180, .inl (tf)))]) [0, 1, 2, 3, 4] rfl
        have hD := hD.sub (ws' := [((ad 1), .inr (6, [.ref (ad 2), .ref (ad 3), .ref (ad 4), .int (nI tc1), .int (nI 0)])), ((ad 2), .inl (G.2 3, 181, .inr (.inr (.inr (.inr (q1)))))), ((ad 3), .inl (G.2 0, 181, .inl (pl1))), ((ad 4), .inl (G.2 0, 181, .inl (vl1))), (tx, .inl (G.2 1, 180, .inl (tf)))]) [0, 1, 2, 3, 4] (by decide) rfl
        exact ih e12 q1 pl1 vl1 tc1 ls H locs (by omega) (by omega) (by omega) h3x hl hP hD hS
      · skip
        refine lv_aload_n hx hb d_Ts_cut_33 rfl (lv_at hl 2 rfl) ?_
        refine lv_aload_n hx hb d_Ts_cut_34 rfl (lv_at hl 3 rfl) ?_
        refine lv_iload_n hx hb d_Ts_cut_35 rfl (lv_at hl 1 rfl) ?_
        refine lv_iload hx hb d_Ts_cut_36 (lv_at hl 0 rfl) ?_
        have hPc := hP.sub (ws' := [(tx, .inl (G.2 1, 180, .inl (tf)))]) [4] rfl
        have hDc := hD.sub (ws' := [(tx, .inl (G.2 1, 180, .inl (tf)))]) [4] (by decide) rfl
        have hFc := va_free (wc := [(tx, .inl (G.2 1, 180, .inl (tf)))]) hD hS hA [4] rfl
        refine va_csr (va_Run.run (va_runS (As := [.ref tx, .int (nI place), .int (nI e12)]) (rest := [.ref (ad 1)]) ⟨hx, hb, hml, hown, hts⟩ (k_kindOf l G tk _ tx tf place e12 (by omega) (by omega)) (va_cwS 3 hts (nn_gS mw_424 mw_422 mw_423 mw_89) rfl rfl rfl (by decide +kernel) ⟨Nat.le_of_ble_eq_true rfl, Nat.le_of_ble_eq_true rfl⟩) (nz_preSR hPc hDc hK hN hE hS) rfl rfl hl.1 rfl (lv_room (Nat.le_of_ble_eq_true rfl)) d_Ts_cut_38 ⟨(Nat.le_of_ble_eq_true rfl), (Nat.le_of_ble_eq_true rfl)⟩)) (fun r13 er13 => ?_)
        have hr13 : r13 < 31 := er13
        refine lv_iload_n hx hb d_Ts_cut_41 rfl (lv_at hl 1 rfl) ?_
        refine lv_aload_n hx hb d_Ts_cut_42 rfl (lv_at hl 3 rfl) ?_
        refine lv_iload_n hx hb d_Ts_cut_43 rfl (lv_at hl 1 rfl) ?_
        refine lv_iload hx hb d_Ts_cut_44 (lv_at hl 0 rfl) ?_
        have hPc := hP.sub (ws' := [(tx, .inl (G.2 1, 180, .inl (tf)))]) [4] rfl
        have hDc := hD.sub (ws' := [(tx, .inl (G.2 1, 180, .inl (tf)))]) [4] (by decide) rfl
        have hFc := va_free (wc := [(tx, .inl (G.2 1, 180, .inl (tf)))]) hD hS hA [4] rfl
        refine vp_callSi (va_Run.run (va_runS (As := [.ref tx, .int (nI place), .int (nI e12)]) (rest := [.int (nI place), .ref (tk r13), .ref (ad 1)]) ⟨hx, hb, hml, hown, hts⟩ (k_valueOf l G tk _ tx tf place e12 (by omega) (by omega)) (va_cwS 3 hts (nn_gS mw_492 mw_490 mw_491 mw_89) rfl rfl rfl (by decide +kernel) ⟨Nat.le_of_ble_eq_true rfl, Nat.le_of_ble_eq_true rfl⟩) (nz_preSR hPc hDc hK hN hE hS) rfl rfl hl.1 rfl (lv_room (Nat.le_of_ble_eq_true rfl)) d_Ts_cut_46 ⟨(Nat.le_of_ble_eq_true rfl), (Nat.le_of_ble_eq_true rfl)⟩)) (fun r14 er14 => ?_)
        have hPc := hP.sub (ws' := [((ad 1), .inr (6, [.ref (ad 2), .ref (ad 3), .ref (ad 4), .int (nI tc1), .int (nI 0)])), ((ad 2), .inl (G.2 3, 181, .inr (.inr (.inr (.inr (q1)))))), ((ad 3), .inl (G.2 0, 181, .inl (pl1))), ((ad 4), .inl (G.2 0, 181, .inl (vl1)))]) [0, 1, 2, 3] rfl
        have hDc := hD.sub (ws' := [((ad 1), .inr (6, [.ref (ad 2), .ref (ad 3), .ref (ad 4), .int (nI tc1), .int (nI 0)])), ((ad 2), .inl (G.2 3, 181, .inr (.inr (.inr (.inr (q1)))))), ((ad 3), .inl (G.2 0, 181, .inl (pl1))), ((ad 4), .inl (G.2 0, 181, .inl (vl1)))]) [0, 1, 2, 3] (by decide) rfl
        have hFc := va_free (wc := [((ad 1), .inr (6, [.ref (ad 2), .ref (ad 3), .ref (ad 4), .int (nI tc1), .int (nI 0)])), ((ad 2), .inl (G.2 3, 181, .inr (.inr (.inr (.inr (q1)))))), ((ad 3), .inl (G.2 0, 181, .inl (pl1))), ((ad 4), .inl (G.2 0, 181, .inl (vl1)))]) hD hS hA [0, 1, 2, 3] rfl
        refine va_callv (va_runV (As := [.ref (tk r13), .int (nI place), .int r14]) (rest := []) ⟨hx, hb, hml, hown, hts⟩ (k_add l G tk _ ad q1 pl1 vl1 tc1 0 r13 (nI place) r14 (by omega) h3x hr13) (cwV 3 hts (nn_gV mw_496 mw_493 mw_495 mw_5 mw_89) rfl rfl rfl (by decide +kernel) ⟨Nat.le_of_ble_eq_true rfl, Nat.le_of_ble_eq_true rfl⟩) (nz_preV (va_recv hK hP rfl (q0 := 0) rfl) hPc hDc hK hN hE hS hFc) rfl rfl hl.1 rfl (lv_room (Nat.le_of_ble_eq_true rfl)) d_Ts_cut_49 ⟨(Nat.le_of_ble_eq_true rfl), (Nat.le_of_ble_eq_true rfl)⟩) hS (fun q _ h => hFc q h) hFc (fun u15 t H locs ht hvm hw hB hz1 hk1 hS => ?_)
        obtain ⟨q16, v17, v18, n19⟩ := u15
        dsimp only at hB hw
        obtain ⟨h1n19, h2n19, h3n19⟩ := hw
        obtain ⟨hP1, hD1⟩ := hB
        rw [ht] at hP1
        obtain ⟨hP, hD⟩ := va_join (wr := [(tx, .inl (G.2 1, 180, .inl (tf)))]) (w1 := [((ad 1), .inr (6, [.ref (ad 2), .ref (ad 3), .ref (ad 4), .int (nI n19), .int (nI 0)])), ((ad 2), .inl (G.2 3, 181, .inr (.inr (.inr (.inr (q16)))))), ((ad 3), .inl (G.2 0, 181, .inl (v17))), ((ad 4), .inl (G.2 0, 181, .inl (v18)))]) hP hD [0, 1, 2, 3] [4] rfl rfl (by decide) (by decide) hk1 hFc hP1 hD1
        have hP : va_P G.1 nn_cls [(tx, .inl (G.2 1, 180, .inl (tf))), ((ad 1), .inr (6, [.ref (ad 2), .ref (ad 3), .ref (ad 4), .int (nI n19), .int (nI 0)])), ((ad 2), .inl (G.2 3, 181, .inr (.inr (.inr (.inr (q16)))))), ((ad 3), .inl (G.2 0, 181, .inl (v17))), ((ad 4), .inl (G.2 0, 181, .inl (v18)))] H := hP
        have hD : va_D A [(tx, .inl (G.2 1, 180, .inl (tf))), ((ad 1), .inr (6, [.ref (ad 2), .ref (ad 3), .ref (ad 4), .int (nI n19), .int (nI 0)])), ((ad 2), .inl (G.2 3, 181, .inr (.inr (.inr (.inr (q16)))))), ((ad 3), .inl (G.2 0, 181, .inl (v17))), ((ad 4), .inl (G.2 0, 181, .inl (v18)))] := hD
        refine lv_iload hx hb d_Ts_cut_52 (lv_at hl 0 rfl) ?_
        refine lv_iload_n hx hb d_Ts_cut_54 rfl (lv_at hl 1 rfl) ?_
        refine lv_iconst (v := 1) hx hb d_Ts_cut_55 (by decide) ?_
        refine lv_iadd hx hb d_Ts_cut_56 ?_
        refine nb_top (nI (place + 1)) (nI_1 place) ?_
        refine va_mmax hx hb (hml.trans hl.1.symm) hown (hg _ mw_497) (hg _ mw_498) (hg _ mw_101) (hg _ mw_499) (Nat.le_of_ble_eq_true rfl) (Nat.le_of_ble_eq_true rfl) (Nat.zero_le _) (Nat.zero_le _) d_Ts_cut_57 ?_
        refine nb_top (nI e12) (nz_max (by omega) (by omega)) ?_
        refine lv_istore_n (lv' := [(3, .int (nI e12)), (4, .int (nI e12)), (0, .ref (ad 1)), (1, .ref tx), (2, .int (nI n))]) hx hb d_Ts_cut_60 rfl hl (by decide) rfl (fun ls hl => ?_)
        refine lv_goto (tgt := 12) hx hb d_Ts_cut_61 rfl ?_
        have hl := lv_sub (l' := [(3, .int (nI e12)), (0, .ref (ad 1)), (1, .ref tx), (2, .int (nI n))]) hl [0, 2, 3, 4] rfl
        have hP := hP.sub (ws' := [((ad 1), .inr (6, [.ref (ad 2), .ref (ad 3), .ref (ad 4), .int (nI n19), .int (nI 0)])), ((ad 2), .inl (G.2 3, 181, .inr (.inr (.inr (.inr (q16)))))), ((ad 3), .inl (G.2 0, 181, .inl (v17))), ((ad 4), .inl (G.2 0, 181, .inl (v18))), (tx, .inl (G.2 1, 180, .inl (tf)))]) [1, 2, 3, 4, 0] rfl
        have hD := hD.sub (ws' := [((ad 1), .inr (6, [.ref (ad 2), .ref (ad 3), .ref (ad 4), .int (nI n19), .int (nI 0)])), ((ad 2), .inl (G.2 3, 181, .inr (.inr (.inr (.inr (q16)))))), ((ad 3), .inl (G.2 0, 181, .inl (v17))), ((ad 4), .inl (G.2 0, 181, .inl (v18))), (tx, .inl (G.2 1, 180, .inl (tf)))]) [1, 2, 3, 4, 0] (by decide) rfl
        exact ih e12 q16 v17 v18 n19 ls H locs (by omega) (by omega) (by omega) h3n19 hl hP hD hS
