/-! contracts (by wip/p1/gen.py) -/
theorem d_Mo_expression_0 : decode b_Mo_expression 0 = .ok (.aload_n 0, 1) := by decide +kernel
theorem d_Mo_expression_1 : decode b_Mo_expression 1 = .ok (.bipush 15, 2) := by decide +kernel
theorem d_Mo_expression_3 : decode b_Mo_expression 3 = .ok (.iconst 0, 1) := by decide +kernel
theorem d_Mo_expression_4 : decode b_Mo_expression 4 = .ok (.iconst 0, 1) := by decide +kernel
theorem d_Mo_expression_5 : decode b_Mo_expression 5 = .ok (.invokevirtual 162, 3) := by decide +kernel
theorem d_Mo_expression_8 : decode b_Mo_expression 8 = .ok (.aload_n 0, 1) := by decide +kernel
theorem d_Mo_expression_9 : decode b_Mo_expression 9 = .ok (.getfield 88, 3) := by decide +kernel
theorem d_Mo_expression_12 : decode b_Mo_expression 12 = .ok (.bipush 45, 2) := by decide +kernel
theorem d_Mo_expression_14 : decode b_Mo_expression 14 = .ok (.if_icmp .ne 17, 3) := by decide +kernel
theorem d_Mo_expression_17 : decode b_Mo_expression 17 = .ok (.aload_n 0, 1) := by decide +kernel
theorem d_Mo_expression_18 : decode b_Mo_expression 18 = .ok (.invokevirtual 117, 3) := by decide +kernel
theorem d_Mo_expression_21 : decode b_Mo_expression 21 = .ok (.aload_n 0, 1) := by decide +kernel
theorem d_Mo_expression_22 : decode b_Mo_expression 22 = .ok (.bipush 23, 2) := by decide +kernel
theorem d_Mo_expression_24 : decode b_Mo_expression 24 = .ok (.sipush 144, 3) := by decide +kernel
theorem d_Mo_expression_27 : decode b_Mo_expression 27 = .ok (.iconst 1, 1) := by decide +kernel
theorem d_Mo_expression_28 : decode b_Mo_expression 28 = .ok (.invokevirtual 162, 3) := by decide +kernel
theorem d_Mo_expression_31 : decode b_Mo_expression 31 = .ok (.aload_n 0, 1) := by decide +kernel
theorem d_Mo_expression_32 : decode b_Mo_expression 32 = .ok (.bipush 16, 2) := by decide +kernel
theorem d_Mo_expression_34 : decode b_Mo_expression 34 = .ok (.iconst 0, 1) := by decide +kernel
theorem d_Mo_expression_35 : decode b_Mo_expression 35 = .ok (.iconst 0, 1) := by decide +kernel
theorem d_Mo_expression_36 : decode b_Mo_expression 36 = .ok (.invokevirtual 162, 3) := by decide +kernel
theorem d_Mo_expression_39 : decode b_Mo_expression 39 = .ok (.return_, 1) := by decide +kernel

def k_expression_31 (x : nM)  : nM := (m_push x 16 0 0)
def p_expression_31 (x : nM)  : Prop := o_push x 16 0 0 ∧ True
def m_expression (x : nM)  : nM := (if (m_push x 15 0 0).1 3 = 45 then k_expression_31 (m_push (m_goOn (m_push x 15 0 0)) 23 144 1) else k_expression_31 (m_push x 15 0 0))
def o_expression (x : nM)  : Prop := o_push x 15 0 0 ∧ (((m_push x 15 0 0).1 3 = 45 → o_goOn (m_push x 15 0 0) ∧ o_push (m_goOn (m_push x 15 0 0)) 23 144 1 ∧ p_expression_31 (m_push (m_goOn (m_push x 15 0 0)) 23 144 1)) ∧ (¬ ((m_push x 15 0 0).1 3 = 45) → p_expression_31 (m_push x 15 0 0)))
set_option maxHeartbeats 4000000 in
set_option maxRecDepth 100000 in
theorem t_expression (l : Launch) (G : nn_G) (sz : Nat) (mo : Nat) (ad : Nat → Nat) (x : nM)  (hk : o_expression x) : Met l y_Mo_expression w_Mo_expression ({ frames := 3, cells := 0, slots := 0, locals := 64 }) (nn_P G [.ref mo] (nm_W G mo ad x) sz) (nm_Qv G mo ad (m_expression x) (va_A (nm_W G mo ad x) sz)) 0 0 (va_A (nm_W G mo ad x) sz) := by
  refine Met.ofW (cc := b_Mo_expression) (maxL := 1) (ret := none) (by decide) rfl ?_
  intro p e s m args below meth c s₁ B hml hv
  obtain ⟨rfl, hsz, hP, hK, hD0, hN⟩ := hv
  have hx := B.exec
  have hb := B.bytes
  have hr := B.returns
  have hts := atoms_spec (ws := w_Mo_expression) B.pre
  have hg : ∀ w ∈ nn_gw, w.before _ s = true := fun w h => hts w (List.mem_cons_of_mem _ h)
  have hown : s.vm.findClass R_Mo = some m.cls := findClass_of_methodNamed B.named
  subst hsz
  have hD := hD0.self (sz := s.heap.size)
  generalize hAe : va_A (nm_W G mo ad x) s.heap.size = A at hD ⊢
  have hA : ∀ q : Nat, s.heap.size ≤ q → A q := fun q h => by rw [← hAe]; exact Or.inr h
  clear hAe
  have hS : va_S A s.heap s.heap [] := va_S.rf
  have hP : va_P G.1 nn_cls (nm_W G mo ad x) s.heap := hP
  have hl := lv_entry ([.ref mo]) (n := 1) (Nat.le_of_ble_eq_true rfl)
  rw [lg_entry_eq]
  generalize (lg_sl ([.ref mo]) ++ List.replicate (1 - (lg_sl ([.ref mo])).length) Slot.unset).toArray = ls at hl ⊢
  have hl : lv_has ls 1 [(0, .ref mo)] := hl
  have J31 : ∀ (x : nM)  (ls : Array Slot) (H : Heap) (locs : List Loc), p_expression_31 x → lv_has ls 1 [(0, .ref mo)] → va_P G.1 nn_cls (nm_W G mo ad x) H → va_D A (nm_W G mo ad x) → va_S A s.heap H locs → W p l e (headSpec w_Mo_expression ({ frames := 3, cells := 0, slots := 0, locals := 64 })).room s m [.ref mo].toArray below meth c H locs 0 0 (MQ below (nm_Qv G mo ad (k_expression_31 x) A) [.ref mo].toArray s 0 0 A) (F0 m 31 ls []) := by
    intro x  ls H locs hk hl hP hD hS
    unfold p_expression_31 at hk
    refine lv_aload_n hx hb d_Mo_expression_31 rfl (lv_at hl 0 rfl) ?_
    refine lv_bipush (v := 16) hx hb d_Mo_expression_32 (by decide) ?_
    refine lv_iconst (v := 0) hx hb d_Mo_expression_34 (by decide) ?_
    refine lv_iconst (v := 0) hx hb d_Mo_expression_35 (by decide) ?_
    obtain ⟨hi, hk⟩ := hk
    have hFc := nm_free hD hS hA
    refine va_callv (va_runV (As := [.int 16, .int 0, .int 0]) (rest := []) ⟨hx, hb, hml, hown, hts⟩ (t_push l G _ mo ad x 16 0 0 hi) (cwV 3 hts (nn_gV mw_1028 mw_1025 mw_1027 mw_46 mw_94) rfl rfl rfl (by decide +kernel) ⟨Nat.le_of_ble_eq_true rfl, Nat.le_of_ble_eq_true rfl⟩) (nn_preV (va_recv hK hP rfl (q0 := 0) rfl) hP hD hK hN) rfl rfl hl.1 rfl (lv_room (Nat.le_of_ble_eq_true rfl)) d_Mo_expression_36 ⟨Nat.le_of_ble_eq_true rfl, Nat.le_of_ble_eq_true rfl⟩) hS (fun q _ h => hFc q h) hFc (fun u t H locs ht hvm hw hB hz1 hk1 hS => ?_)
    obtain ⟨hP1, hD1⟩ := hB
    rw [ht] at hP1
    have hP := hP1
    have hD := hD1.weaken (fun _ _ _ h => hFc _ h)
    have hR : k_expression_31 x = m_push x 16 0 0 := by rw [k_expression_31]
    refine nm_W1 hR ?_
    exact W.vret hx hb hr (fun t ht hW => ⟨⟨(), rfl, trivial, ⟨by rw [ht]; exact hP, hD⟩⟩, hS.F ht⟩) hS.2.2 d_Mo_expression_39
  unfold o_expression at hk
  refine lv_aload_n hx hb d_Mo_expression_0 rfl (lv_at hl 0 rfl) ?_
  refine lv_bipush (v := 15) hx hb d_Mo_expression_1 (by decide) ?_
  refine lv_iconst (v := 0) hx hb d_Mo_expression_3 (by decide) ?_
  refine lv_iconst (v := 0) hx hb d_Mo_expression_4 (by decide) ?_
  obtain ⟨hi, hk⟩ := hk
  have hFc := nm_free hD hS hA
  refine va_callv (va_runV (As := [.int 15, .int 0, .int 0]) (rest := []) ⟨hx, hb, hml, hown, hts⟩ (t_push l G _ mo ad x 15 0 0 hi) (cwV 3 hts (nn_gV mw_1028 mw_1025 mw_1027 mw_46 mw_94) rfl rfl rfl (by decide +kernel) ⟨Nat.le_of_ble_eq_true rfl, Nat.le_of_ble_eq_true rfl⟩) (nn_preV (va_recv hK hP rfl (q0 := 0) rfl) hP hD hK hN) rfl rfl hl.1 rfl (lv_room (Nat.le_of_ble_eq_true rfl)) d_Mo_expression_5 ⟨Nat.le_of_ble_eq_true rfl, Nat.le_of_ble_eq_true rfl⟩) hS (fun q _ h => hFc q h) hFc (fun u t H locs ht hvm hw hB hz1 hk1 hS => ?_)
  obtain ⟨hP1, hD1⟩ := hB
  rw [ht] at hP1
  have hP := hP1
  have hD := hD1.weaken (fun _ _ _ h => hFc _ h)
  refine lv_aload_n hx hb d_Mo_expression_8 rfl (lv_at hl 0 rfl) ?_
  refine nm_get hx hb hg hown hK hP 3 (by decide) (by decide) (hg _ mw_893) d_Mo_expression_9 ?_
  refine lv_bipush (v := 45) hx hb d_Mo_expression_12 (by decide) ?_
  refine lv_icmp_ne (tgt := 31) hx hb d_Mo_expression_14 rfl (fun hc14 => ?_) (fun hc14 => ?_)
  · skip
    have hk := hk.2 hc14
    have hl := lv_sub (l' := [(0, .ref mo)]) hl [0] rfl
    have hR : m_expression x = k_expression_31 (m_push x 15 0 0) := by rw [m_expression]; rw [if_neg hc14]
    exact nm_W1 hR (J31 (m_push x 15 0 0) ls _ _ hk hl hP hD hS)
  · skip
    have hk := hk.1 hc14
    refine lv_aload_n hx hb d_Mo_expression_17 rfl (lv_at hl 0 rfl) ?_
    obtain ⟨hi, hk⟩ := hk
    have hFc := nm_free hD hS hA
    refine va_callv (va_runV (As := []) (rest := []) ⟨hx, hb, hml, hown, hts⟩ (t_goOn l G _ mo ad (m_push x 15 0 0) hi) (cwV 0 hts (nn_gV mw_1068 mw_1065 mw_1067 mw_53 mw_94) rfl rfl rfl (by decide +kernel) ⟨Nat.le_of_ble_eq_true rfl, Nat.le_of_ble_eq_true rfl⟩) (nn_preV (va_recv hK hP rfl (q0 := 0) rfl) hP hD hK hN) rfl rfl hl.1 rfl (lv_room (Nat.le_of_ble_eq_true rfl)) d_Mo_expression_18 ⟨Nat.le_of_ble_eq_true rfl, Nat.le_of_ble_eq_true rfl⟩) hS (fun q _ h => hFc q h) hFc (fun u t H locs ht hvm hw hB hz1 hk1 hS => ?_)
    obtain ⟨hP1, hD1⟩ := hB
    rw [ht] at hP1
    have hP := hP1
    have hD := hD1.weaken (fun _ _ _ h => hFc _ h)
    refine lv_aload_n hx hb d_Mo_expression_21 rfl (lv_at hl 0 rfl) ?_
    refine lv_bipush (v := 23) hx hb d_Mo_expression_22 (by decide) ?_
    refine lv_sipush (v := 144) hx hb d_Mo_expression_24 (by decide) ?_
    refine lv_iconst (v := 1) hx hb d_Mo_expression_27 (by decide) ?_
    obtain ⟨hi, hk⟩ := hk
    have hFc := nm_free hD hS hA
    refine va_callv (va_runV (As := [.int 23, .int 144, .int 1]) (rest := []) ⟨hx, hb, hml, hown, hts⟩ (t_push l G _ mo ad (m_goOn (m_push x 15 0 0)) 23 144 1 hi) (cwV 3 hts (nn_gV mw_1028 mw_1025 mw_1027 mw_46 mw_94) rfl rfl rfl (by decide +kernel) ⟨Nat.le_of_ble_eq_true rfl, Nat.le_of_ble_eq_true rfl⟩) (nn_preV (va_recv hK hP rfl (q0 := 0) rfl) hP hD hK hN) rfl rfl hl.1 rfl (lv_room (Nat.le_of_ble_eq_true rfl)) d_Mo_expression_28 ⟨Nat.le_of_ble_eq_true rfl, Nat.le_of_ble_eq_true rfl⟩) hS (fun q _ h => hFc q h) hFc (fun u t H locs ht hvm hw hB hz1 hk1 hS => ?_)
    obtain ⟨hP1, hD1⟩ := hB
    rw [ht] at hP1
    have hP := hP1
    have hD := hD1.weaken (fun _ _ _ h => hFc _ h)
    have hl := lv_sub (l' := [(0, .ref mo)]) hl [0] rfl
    have hR : m_expression x = k_expression_31 (m_push (m_goOn (m_push x 15 0 0)) 23 144 1) := by rw [m_expression]; rw [if_pos hc14]
    exact nm_W1 hR (J31 (m_push (m_goOn (m_push x 15 0 0)) 23 144 1) ls _ _ hk hl hP hD hS)

theorem d_Mo_chain_0 : decode b_Mo_chain 0 = .ok (.aload_n 0, 1) := by decide +kernel
theorem d_Mo_chain_1 : decode b_Mo_chain 1 = .ok (.getfield 88, 3) := by decide +kernel
theorem d_Mo_chain_4 : decode b_Mo_chain 4 = .ok (.iload_n 2, 1) := by decide +kernel
theorem d_Mo_chain_5 : decode b_Mo_chain 5 = .ok (.if_icmp .eq 11, 3) := by decide +kernel
theorem d_Mo_chain_8 : decode b_Mo_chain 8 = .ok (.aload_n 0, 1) := by decide +kernel
theorem d_Mo_chain_9 : decode b_Mo_chain 9 = .ok (.getfield 88, 3) := by decide +kernel
theorem d_Mo_chain_12 : decode b_Mo_chain 12 = .ok (.iload_n 3, 1) := by decide +kernel
theorem d_Mo_chain_13 : decode b_Mo_chain 13 = .ok (.if_icmp .ne 52, 3) := by decide +kernel
theorem d_Mo_chain_16 : decode b_Mo_chain 16 = .ok (.aload_n 0, 1) := by decide +kernel
theorem d_Mo_chain_17 : decode b_Mo_chain 17 = .ok (.getfield 88, 3) := by decide +kernel
theorem d_Mo_chain_20 : decode b_Mo_chain 20 = .ok (.iload_n 2, 1) := by decide +kernel
theorem d_Mo_chain_21 : decode b_Mo_chain 21 = .ok (.if_icmp .ne 8, 3) := by decide +kernel
theorem d_Mo_chain_24 : decode b_Mo_chain 24 = .ok (.iload 4, 2) := by decide +kernel
theorem d_Mo_chain_26 : decode b_Mo_chain 26 = .ok (.goto 7, 3) := by decide +kernel
theorem d_Mo_chain_29 : decode b_Mo_chain 29 = .ok (.iload 4, 2) := by decide +kernel
theorem d_Mo_chain_31 : decode b_Mo_chain 31 = .ok (.iconst 1, 1) := by decide +kernel
theorem d_Mo_chain_32 : decode b_Mo_chain 32 = .ok (.iadd, 1) := by decide +kernel
theorem d_Mo_chain_33 : decode b_Mo_chain 33 = .ok (.istore 6, 2) := by decide +kernel
theorem d_Mo_chain_35 : decode b_Mo_chain 35 = .ok (.aload_n 0, 1) := by decide +kernel
theorem d_Mo_chain_36 : decode b_Mo_chain 36 = .ok (.invokevirtual 117, 3) := by decide +kernel
theorem d_Mo_chain_39 : decode b_Mo_chain 39 = .ok (.aload_n 0, 1) := by decide +kernel
theorem d_Mo_chain_40 : decode b_Mo_chain 40 = .ok (.iload_n 1, 1) := by decide +kernel
theorem d_Mo_chain_41 : decode b_Mo_chain 41 = .ok (.iconst 0, 1) := by decide +kernel
theorem d_Mo_chain_42 : decode b_Mo_chain 42 = .ok (.iconst 0, 1) := by decide +kernel
theorem d_Mo_chain_43 : decode b_Mo_chain 43 = .ok (.invokevirtual 162, 3) := by decide +kernel
theorem d_Mo_chain_46 : decode b_Mo_chain 46 = .ok (.aload_n 0, 1) := by decide +kernel
theorem d_Mo_chain_47 : decode b_Mo_chain 47 = .ok (.bipush 23, 2) := by decide +kernel
theorem d_Mo_chain_49 : decode b_Mo_chain 49 = .ok (.sipush 144, 3) := by decide +kernel
theorem d_Mo_chain_52 : decode b_Mo_chain 52 = .ok (.iload 6, 2) := by decide +kernel
theorem d_Mo_chain_54 : decode b_Mo_chain 54 = .ok (.invokevirtual 162, 3) := by decide +kernel
theorem d_Mo_chain_57 : decode b_Mo_chain 57 = .ok (.aload_n 0, 1) := by decide +kernel
theorem d_Mo_chain_58 : decode b_Mo_chain 58 = .ok (.iload 5, 2) := by decide +kernel
theorem d_Mo_chain_60 : decode b_Mo_chain 60 = .ok (.iconst 0, 1) := by decide +kernel
theorem d_Mo_chain_61 : decode b_Mo_chain 61 = .ok (.iconst 0, 1) := by decide +kernel
theorem d_Mo_chain_62 : decode b_Mo_chain 62 = .ok (.invokevirtual 162, 3) := by decide +kernel
theorem d_Mo_chain_65 : decode b_Mo_chain 65 = .ok (.return_, 1) := by decide +kernel

def k_chain_33 (x : nM) (v1 : Int32) (v5 : Int32) (w0 : Int32) : nM := (m_push (m_push (m_push (m_goOn x) v1 0 0) 23 144 w0) v5 0 0)
def p_chain_33 (x : nM) (v1 : Int32) (v5 : Int32) (w0 : Int32) : Prop := o_goOn x ∧ o_push (m_goOn x) v1 0 0 ∧ o_push (m_push (m_goOn x) v1 0 0) 23 144 w0 ∧ o_push (m_push (m_push (m_goOn x) v1 0 0) 23 144 w0) v5 0 0 ∧ True
def k_chain_16 (x : nM) (v1 : Int32) (v2 : Int32) (v4 : Int32) (v5 : Int32) : nM := (if x.1 3 = v2 then k_chain_33 x v1 v5 v4 else k_chain_33 x v1 v5 (v4 + 1))
def p_chain_16 (x : nM) (v1 : Int32) (v2 : Int32) (v4 : Int32) (v5 : Int32) : Prop := ((x.1 3 = v2 → p_chain_33 x v1 v5 v4) ∧ (¬ (x.1 3 = v2) → p_chain_33 x v1 v5 (v4 + 1)))
def m_chain (x : nM) (a1 : Int32) (a2 : Int32) (a3 : Int32) (a4 : Int32) (a5 : Int32) : nM := (if x.1 3 = a2 then k_chain_16 x a1 a2 a4 a5 else (if x.1 3 = a3 then k_chain_16 x a1 a2 a4 a5 else x))
def o_chain (x : nM) (a1 : Int32) (a2 : Int32) (a3 : Int32) (a4 : Int32) (a5 : Int32) : Prop := ((x.1 3 = a2 → p_chain_16 x a1 a2 a4 a5) ∧ (¬ (x.1 3 = a2) → ((x.1 3 = a3 → p_chain_16 x a1 a2 a4 a5) ∧ (¬ (x.1 3 = a3) → True))))
set_option maxHeartbeats 4000000 in
set_option maxRecDepth 100000 in
theorem t_chain (l : Launch) (G : nn_G) (sz : Nat) (mo : Nat) (ad : Nat → Nat) (x : nM) (a1 : Int32) (a2 : Int32) (a3 : Int32) (a4 : Int32) (a5 : Int32) (hk : o_chain x a1 a2 a3 a4 a5) : Met l y_Mo_chain w_Mo_chain ({ frames := 3, cells := 0, slots := 0, locals := 64 }) (nn_P G [.ref mo, .int a1, .int a2, .int a3, .int a4, .int a5] (nm_W G mo ad x) sz) (nm_Qv G mo ad (m_chain x a1 a2 a3 a4 a5) (va_A (nm_W G mo ad x) sz)) 0 0 (va_A (nm_W G mo ad x) sz) := by
  refine Met.ofW (cc := b_Mo_chain) (maxL := 7) (ret := none) (by decide) rfl ?_
  intro p e s m args below meth c s₁ B hml hv
  obtain ⟨rfl, hsz, hP, hK, hD0, hN⟩ := hv
  have hx := B.exec
  have hb := B.bytes
  have hr := B.returns
  have hts := atoms_spec (ws := w_Mo_chain) B.pre
  have hg : ∀ w ∈ nn_gw, w.before _ s = true := fun w h => hts w (List.mem_cons_of_mem _ h)
  have hown : s.vm.findClass R_Mo = some m.cls := findClass_of_methodNamed B.named
  subst hsz
  have hD := hD0.self (sz := s.heap.size)
  generalize hAe : va_A (nm_W G mo ad x) s.heap.size = A at hD ⊢
  have hA : ∀ q : Nat, s.heap.size ≤ q → A q := fun q h => by rw [← hAe]; exact Or.inr h
  clear hAe
  have hS : va_S A s.heap s.heap [] := va_S.rf
  have hP : va_P G.1 nn_cls (nm_W G mo ad x) s.heap := hP
  have hl := lv_entry ([.ref mo, .int a1, .int a2, .int a3, .int a4, .int a5]) (n := 7) (Nat.le_of_ble_eq_true rfl)
  rw [lg_entry_eq]
  generalize (lg_sl ([.ref mo, .int a1, .int a2, .int a3, .int a4, .int a5]) ++ List.replicate (7 - (lg_sl ([.ref mo, .int a1, .int a2, .int a3, .int a4, .int a5])).length) Slot.unset).toArray = ls at hl ⊢
  have hl : lv_has ls 7 [(0, .ref mo), (1, .int a1), (2, .int a2), (3, .int a3), (4, .int a4), (5, .int a5)] := hl
  have J33 : ∀ (x : nM) (v1 : Int32) (v5 : Int32) (w0 : Int32) (ls : Array Slot) (H : Heap) (locs : List Loc), p_chain_33 x v1 v5 w0 → lv_has ls 7 [(0, .ref mo), (1, .int v1), (5, .int v5)] → va_P G.1 nn_cls (nm_W G mo ad x) H → va_D A (nm_W G mo ad x) → va_S A s.heap H locs → W p l e (headSpec w_Mo_chain ({ frames := 3, cells := 0, slots := 0, locals := 64 })).room s m [.ref mo, .int a1, .int a2, .int a3, .int a4, .int a5].toArray below meth c H locs 0 0 (MQ below (nm_Qv G mo ad (k_chain_33 x v1 v5 w0) A) [.ref mo, .int a1, .int a2, .int a3, .int a4, .int a5].toArray s 0 0 A) (F0 m 33 ls [.int w0]) := by
    intro x v1 v5 w0 ls H locs hk hl hP hD hS
    unfold p_chain_33 at hk
    refine lv_istore (lv' := [(6, .int w0), (0, .ref mo), (1, .int v1), (5, .int v5)]) hx hb d_Mo_chain_33 hl (by decide) rfl (fun ls hl => ?_)
    refine lv_aload_n hx hb d_Mo_chain_35 rfl (lv_at hl 1 rfl) ?_
    obtain ⟨hi, hk⟩ := hk
    have hFc := nm_free hD hS hA
    refine va_callv (va_runV (As := []) (rest := []) ⟨hx, hb, hml, hown, hts⟩ (t_goOn l G _ mo ad x hi) (cwV 0 hts (nn_gV mw_1068 mw_1065 mw_1067 mw_53 mw_94) rfl rfl rfl (by decide +kernel) ⟨Nat.le_of_ble_eq_true rfl, Nat.le_of_ble_eq_true rfl⟩) (nn_preV (va_recv hK hP rfl (q0 := 0) rfl) hP hD hK hN) rfl rfl hl.1 rfl (lv_room (Nat.le_of_ble_eq_true rfl)) d_Mo_chain_36 ⟨Nat.le_of_ble_eq_true rfl, Nat.le_of_ble_eq_true rfl⟩) hS (fun q _ h => hFc q h) hFc (fun u t H locs ht hvm hw hB hz1 hk1 hS => ?_)
    obtain ⟨hP1, hD1⟩ := hB
    rw [ht] at hP1
    have hP := hP1
    have hD := hD1.weaken (fun _ _ _ h => hFc _ h)
    refine lv_aload_n hx hb d_Mo_chain_39 rfl (lv_at hl 1 rfl) ?_
    refine lv_iload_n hx hb d_Mo_chain_40 rfl (lv_at hl 2 rfl) ?_
    refine lv_iconst (v := 0) hx hb d_Mo_chain_41 (by decide) ?_
    refine lv_iconst (v := 0) hx hb d_Mo_chain_42 (by decide) ?_
    obtain ⟨hi, hk⟩ := hk
    have hFc := nm_free hD hS hA
    refine va_callv (va_runV (As := [.int v1, .int 0, .int 0]) (rest := []) ⟨hx, hb, hml, hown, hts⟩ (t_push l G _ mo ad (m_goOn x) v1 0 0 hi) (cwV 3 hts (nn_gV mw_1028 mw_1025 mw_1027 mw_46 mw_94) rfl rfl rfl (by decide +kernel) ⟨Nat.le_of_ble_eq_true rfl, Nat.le_of_ble_eq_true rfl⟩) (nn_preV (va_recv hK hP rfl (q0 := 0) rfl) hP hD hK hN) rfl rfl hl.1 rfl (lv_room (Nat.le_of_ble_eq_true rfl)) d_Mo_chain_43 ⟨Nat.le_of_ble_eq_true rfl, Nat.le_of_ble_eq_true rfl⟩) hS (fun q _ h => hFc q h) hFc (fun u t H locs ht hvm hw hB hz1 hk1 hS => ?_)
    obtain ⟨hP1, hD1⟩ := hB
    rw [ht] at hP1
    have hP := hP1
    have hD := hD1.weaken (fun _ _ _ h => hFc _ h)
    refine lv_aload_n hx hb d_Mo_chain_46 rfl (lv_at hl 1 rfl) ?_
    refine lv_bipush (v := 23) hx hb d_Mo_chain_47 (by decide) ?_
    refine lv_sipush (v := 144) hx hb d_Mo_chain_49 (by decide) ?_
    refine lv_iload hx hb d_Mo_chain_52 (lv_at hl 0 rfl) ?_
    obtain ⟨hi, hk⟩ := hk
    have hFc := nm_free hD hS hA
    refine va_callv (va_runV (As := [.int 23, .int 144, .int w0]) (rest := []) ⟨hx, hb, hml, hown, hts⟩ (t_push l G _ mo ad (m_push (m_goOn x) v1 0 0) 23 144 w0 hi) (cwV 3 hts (nn_gV mw_1028 mw_1025 mw_1027 mw_46 mw_94) rfl rfl rfl (by decide +kernel) ⟨Nat.le_of_ble_eq_true rfl, Nat.le_of_ble_eq_true rfl⟩) (nn_preV (va_recv hK hP rfl (q0 := 0) rfl) hP hD hK hN) rfl rfl hl.1 rfl (lv_room (Nat.le_of_ble_eq_true rfl)) d_Mo_chain_54 ⟨Nat.le_of_ble_eq_true rfl, Nat.le_of_ble_eq_true rfl⟩) hS (fun q _ h => hFc q h) hFc (fun u t H locs ht hvm hw hB hz1 hk1 hS => ?_)
    obtain ⟨hP1, hD1⟩ := hB
    rw [ht] at hP1
    have hP := hP1
    have hD := hD1.weaken (fun _ _ _ h => hFc _ h)
    refine lv_aload_n hx hb d_Mo_chain_57 rfl (lv_at hl 1 rfl) ?_
    refine lv_iload hx hb d_Mo_chain_58 (lv_at hl 3 rfl) ?_
    refine lv_iconst (v := 0) hx hb d_Mo_chain_60 (by decide) ?_
    refine lv_iconst (v := 0) hx hb d_Mo_chain_61 (by decide) ?_
    obtain ⟨hi, hk⟩ := hk
    have hFc := nm_free hD hS hA
    refine va_callv (va_runV (As := [.int v5, .int 0, .int 0]) (rest := []) ⟨hx, hb, hml, hown, hts⟩ (t_push l G _ mo ad (m_push (m_push (m_goOn x) v1 0 0) 23 144 w0) v5 0 0 hi) (cwV 3 hts (nn_gV mw_1028 mw_1025 mw_1027 mw_46 mw_94) rfl rfl rfl (by decide +kernel) ⟨Nat.le_of_ble_eq_true rfl, Nat.le_of_ble_eq_true rfl⟩) (nn_preV (va_recv hK hP rfl (q0 := 0) rfl) hP hD hK hN) rfl rfl hl.1 rfl (lv_room (Nat.le_of_ble_eq_true rfl)) d_Mo_chain_62 ⟨Nat.le_of_ble_eq_true rfl, Nat.le_of_ble_eq_true rfl⟩) hS (fun q _ h => hFc q h) hFc (fun u t H locs ht hvm hw hB hz1 hk1 hS => ?_)
    obtain ⟨hP1, hD1⟩ := hB
    rw [ht] at hP1
    have hP := hP1
    have hD := hD1.weaken (fun _ _ _ h => hFc _ h)
    have hR : k_chain_33 x v1 v5 w0 = m_push (m_push (m_push (m_goOn x) v1 0 0) 23 144 w0) v5 0 0 := by rw [k_chain_33]
    refine nm_W1 hR ?_
    exact W.vret hx hb hr (fun t ht hW => ⟨⟨(), rfl, trivial, ⟨by rw [ht]; exact hP, hD⟩⟩, hS.F ht⟩) hS.2.2 d_Mo_chain_65
  have J16 : ∀ (x : nM) (v1 : Int32) (v2 : Int32) (v4 : Int32) (v5 : Int32) (ls : Array Slot) (H : Heap) (locs : List Loc), p_chain_16 x v1 v2 v4 v5 → lv_has ls 7 [(0, .ref mo), (1, .int v1), (2, .int v2), (4, .int v4), (5, .int v5)] → va_P G.1 nn_cls (nm_W G mo ad x) H → va_D A (nm_W G mo ad x) → va_S A s.heap H locs → W p l e (headSpec w_Mo_chain ({ frames := 3, cells := 0, slots := 0, locals := 64 })).room s m [.ref mo, .int a1, .int a2, .int a3, .int a4, .int a5].toArray below meth c H locs 0 0 (MQ below (nm_Qv G mo ad (k_chain_16 x v1 v2 v4 v5) A) [.ref mo, .int a1, .int a2, .int a3, .int a4, .int a5].toArray s 0 0 A) (F0 m 16 ls []) := by
    intro x v1 v2 v4 v5 ls H locs hk hl hP hD hS
    unfold p_chain_16 at hk
    refine lv_aload_n hx hb d_Mo_chain_16 rfl (lv_at hl 0 rfl) ?_
    refine nm_get hx hb hg hown hK hP 3 (by decide) (by decide) (hg _ mw_893) d_Mo_chain_17 ?_
    refine lv_iload_n hx hb d_Mo_chain_20 rfl (lv_at hl 2 rfl) ?_
    refine lv_icmp_ne (tgt := 29) hx hb d_Mo_chain_21 rfl (fun hc21 => ?_) (fun hc21 => ?_)
    · skip
      have hk := hk.2 hc21
      refine lv_iload hx hb d_Mo_chain_29 (lv_at hl 3 rfl) ?_
      refine lv_iconst (v := 1) hx hb d_Mo_chain_31 (by decide) ?_
      refine lv_iadd hx hb d_Mo_chain_32 ?_
      have hl := lv_sub (l' := [(0, .ref mo), (1, .int v1), (5, .int v5)]) hl [0, 1, 4] rfl
      have hR : k_chain_16 x v1 v2 v4 v5 = k_chain_33 x v1 v5 (v4 + 1) := by rw [k_chain_16]; rw [if_neg hc21]
      exact nm_W1 hR (J33 x v1 v5 (v4 + 1) ls _ _ hk hl hP hD hS)
    · skip
      have hk := hk.1 hc21
      refine lv_iload hx hb d_Mo_chain_24 (lv_at hl 3 rfl) ?_
      refine lv_goto (tgt := 33) hx hb d_Mo_chain_26 rfl ?_
      have hl := lv_sub (l' := [(0, .ref mo), (1, .int v1), (5, .int v5)]) hl [0, 1, 4] rfl
      have hR : k_chain_16 x v1 v2 v4 v5 = k_chain_33 x v1 v5 v4 := by rw [k_chain_16]; rw [if_pos hc21]
      exact nm_W1 hR (J33 x v1 v5 v4 ls _ _ hk hl hP hD hS)
  unfold o_chain at hk
  refine lv_aload_n hx hb d_Mo_chain_0 rfl (lv_at hl 0 rfl) ?_
  refine nm_get hx hb hg hown hK hP 3 (by decide) (by decide) (hg _ mw_893) d_Mo_chain_1 ?_
  refine lv_iload_n hx hb d_Mo_chain_4 rfl (lv_at hl 2 rfl) ?_
  refine lv_icmp_eq (tgt := 16) hx hb d_Mo_chain_5 rfl (fun hc5 => ?_) (fun hc5 => ?_)
  · skip
    have hk := hk.1 hc5
    have hl := lv_sub (l' := [(0, .ref mo), (1, .int a1), (2, .int a2), (4, .int a4), (5, .int a5)]) hl [0, 1, 2, 4, 5] rfl
    have hR : m_chain x a1 a2 a3 a4 a5 = k_chain_16 x a1 a2 a4 a5 := by rw [m_chain]; rw [if_pos hc5]
    exact nm_W1 hR (J16 x a1 a2 a4 a5 ls _ _ hk hl hP hD hS)
  · skip
    have hk := hk.2 hc5
    refine lv_aload_n hx hb d_Mo_chain_8 rfl (lv_at hl 0 rfl) ?_
    refine nm_get hx hb hg hown hK hP 3 (by decide) (by decide) (hg _ mw_893) d_Mo_chain_9 ?_
    refine lv_iload_n hx hb d_Mo_chain_12 rfl (lv_at hl 3 rfl) ?_
    refine lv_icmp_ne (tgt := 65) hx hb d_Mo_chain_13 rfl (fun hc13 => ?_) (fun hc13 => ?_)
    · skip
      have hk := hk.2 hc13
      have hR : m_chain x a1 a2 a3 a4 a5 = x := by rw [m_chain]; rw [if_neg hc5]; rw [if_neg hc13]
      refine nm_W1 hR ?_
      exact W.vret hx hb hr (fun t ht hW => ⟨⟨(), rfl, trivial, ⟨by rw [ht]; exact hP, hD⟩⟩, hS.F ht⟩) hS.2.2 d_Mo_chain_65
    · skip
      have hk := hk.1 hc13
      have hl := lv_sub (l' := [(0, .ref mo), (1, .int a1), (2, .int a2), (4, .int a4), (5, .int a5)]) hl [0, 1, 2, 4, 5] rfl
      have hR : m_chain x a1 a2 a3 a4 a5 = k_chain_16 x a1 a2 a4 a5 := by rw [m_chain]; rw [if_neg hc5]; rw [if_pos hc13]
      exact nm_W1 hR (J16 x a1 a2 a4 a5 ls _ _ hk hl hP hD hS)

theorem d_Mo_factor_0 : decode b_Mo_factor 0 = .ok (.aload_n 0, 1) := by decide +kernel
theorem d_Mo_factor_1 : decode b_Mo_factor 1 = .ok (.getfield 88, 3) := by decide +kernel
theorem d_Mo_factor_4 : decode b_Mo_factor 4 = .ok (.iconst 3, 1) := by decide +kernel
theorem d_Mo_factor_5 : decode b_Mo_factor 5 = .ok (.if_icmp .ne 21, 3) := by decide +kernel
theorem d_Mo_factor_8 : decode b_Mo_factor 8 = .ok (.aload_n 0, 1) := by decide +kernel
theorem d_Mo_factor_9 : decode b_Mo_factor 9 = .ok (.iconst 0, 1) := by decide +kernel
theorem d_Mo_factor_10 : decode b_Mo_factor 10 = .ok (.iconst 0, 1) := by decide +kernel
theorem d_Mo_factor_11 : decode b_Mo_factor 11 = .ok (.aload_n 0, 1) := by decide +kernel
theorem d_Mo_factor_12 : decode b_Mo_factor 12 = .ok (.getfield 85, 3) := by decide +kernel
theorem d_Mo_factor_15 : decode b_Mo_factor 15 = .ok (.invokevirtual 152, 3) := by decide +kernel
theorem d_Mo_factor_18 : decode b_Mo_factor 18 = .ok (.istore_n 1, 1) := by decide +kernel
theorem d_Mo_factor_19 : decode b_Mo_factor 19 = .ok (.aload_n 0, 1) := by decide +kernel
theorem d_Mo_factor_20 : decode b_Mo_factor 20 = .ok (.invokevirtual 117, 3) := by decide +kernel
theorem d_Mo_factor_23 : decode b_Mo_factor 23 = .ok (.goto 188, 3) := by decide +kernel
theorem d_Mo_factor_26 : decode b_Mo_factor 26 = .ok (.aload_n 0, 1) := by decide +kernel
theorem d_Mo_factor_27 : decode b_Mo_factor 27 = .ok (.getfield 88, 3) := by decide +kernel
theorem d_Mo_factor_30 : decode b_Mo_factor 30 = .ok (.bipush 40, 2) := by decide +kernel
theorem d_Mo_factor_32 : decode b_Mo_factor 32 = .ok (.if_icmp .ne 26, 3) := by decide +kernel
theorem d_Mo_factor_35 : decode b_Mo_factor 35 = .ok (.aload_n 0, 1) := by decide +kernel
theorem d_Mo_factor_36 : decode b_Mo_factor 36 = .ok (.invokevirtual 168, 3) := by decide +kernel
theorem d_Mo_factor_39 : decode b_Mo_factor 39 = .ok (.aload_n 0, 1) := by decide +kernel
theorem d_Mo_factor_40 : decode b_Mo_factor 40 = .ok (.bipush 19, 2) := by decide +kernel
theorem d_Mo_factor_42 : decode b_Mo_factor 42 = .ok (.iconst 0, 1) := by decide +kernel
theorem d_Mo_factor_43 : decode b_Mo_factor 43 = .ok (.iconst 0, 1) := by decide +kernel
theorem d_Mo_factor_44 : decode b_Mo_factor 44 = .ok (.invokevirtual 162, 3) := by decide +kernel
theorem d_Mo_factor_47 : decode b_Mo_factor 47 = .ok (.aload_n 0, 1) := by decide +kernel
theorem d_Mo_factor_48 : decode b_Mo_factor 48 = .ok (.bipush 14, 2) := by decide +kernel
theorem d_Mo_factor_50 : decode b_Mo_factor 50 = .ok (.iconst 0, 1) := by decide +kernel
theorem d_Mo_factor_51 : decode b_Mo_factor 51 = .ok (.iconst 0, 1) := by decide +kernel
theorem d_Mo_factor_52 : decode b_Mo_factor 52 = .ok (.invokevirtual 162, 3) := by decide +kernel
theorem d_Mo_factor_55 : decode b_Mo_factor 55 = .ok (.goto 156, 3) := by decide +kernel
theorem d_Mo_factor_58 : decode b_Mo_factor 58 = .ok (.aload_n 0, 1) := by decide +kernel
theorem d_Mo_factor_59 : decode b_Mo_factor 59 = .ok (.getfield 88, 3) := by decide +kernel
theorem d_Mo_factor_62 : decode b_Mo_factor 62 = .ok (.iconst 2, 1) := by decide +kernel
theorem d_Mo_factor_63 : decode b_Mo_factor 63 = .ok (.if_icmp .eq 15, 3) := by decide +kernel
theorem d_Mo_factor_66 : decode b_Mo_factor 66 = .ok (.aload_n 0, 1) := by decide +kernel
theorem d_Mo_factor_67 : decode b_Mo_factor 67 = .ok (.iconst 1, 1) := by decide +kernel
theorem d_Mo_factor_68 : decode b_Mo_factor 68 = .ok (.aload_n 0, 1) := by decide +kernel
theorem d_Mo_factor_69 : decode b_Mo_factor 69 = .ok (.getfield 78, 3) := by decide +kernel
theorem d_Mo_factor_72 : decode b_Mo_factor 72 = .ok (.invokevirtual 120, 3) := by decide +kernel
theorem d_Mo_factor_75 : decode b_Mo_factor 75 = .ok (.goto 136, 3) := by decide +kernel
theorem d_Mo_factor_78 : decode b_Mo_factor 78 = .ok (.aload_n 0, 1) := by decide +kernel
theorem d_Mo_factor_79 : decode b_Mo_factor 79 = .ok (.aload_n 0, 1) := by decide +kernel
theorem d_Mo_factor_80 : decode b_Mo_factor 80 = .ok (.getfield 85, 3) := by decide +kernel
theorem d_Mo_factor_83 : decode b_Mo_factor 83 = .ok (.invokevirtual 127, 3) := by decide +kernel
theorem d_Mo_factor_86 : decode b_Mo_factor 86 = .ok (.istore_n 1, 1) := by decide +kernel
theorem d_Mo_factor_87 : decode b_Mo_factor 87 = .ok (.aload_n 0, 1) := by decide +kernel
theorem d_Mo_factor_88 : decode b_Mo_factor 88 = .ok (.invokevirtual 178, 3) := by decide +kernel
theorem d_Mo_factor_91 : decode b_Mo_factor 91 = .ok (.bipush 91, 2) := by decide +kernel
theorem d_Mo_factor_93 : decode b_Mo_factor 93 = .ok (.if_icmp .ne 7, 3) := by decide +kernel
theorem d_Mo_factor_96 : decode b_Mo_factor 96 = .ok (.iconst 1, 1) := by decide +kernel
theorem d_Mo_factor_97 : decode b_Mo_factor 97 = .ok (.goto 4, 3) := by decide +kernel
theorem d_Mo_factor_100 : decode b_Mo_factor 100 = .ok (.iconst 0, 1) := by decide +kernel
theorem d_Mo_factor_101 : decode b_Mo_factor 101 = .ok (.istore_n 2, 1) := by decide +kernel
theorem d_Mo_factor_102 : decode b_Mo_factor 102 = .ok (.iload_n 1, 1) := by decide +kernel
theorem d_Mo_factor_103 : decode b_Mo_factor 103 = .ok (.ifCond .ge 15, 3) := by decide +kernel
theorem d_Mo_factor_106 : decode b_Mo_factor 106 = .ok (.aload_n 0, 1) := by decide +kernel
theorem d_Mo_factor_107 : decode b_Mo_factor 107 = .ok (.iconst 2, 1) := by decide +kernel
theorem d_Mo_factor_108 : decode b_Mo_factor 108 = .ok (.aload_n 0, 1) := by decide +kernel
theorem d_Mo_factor_109 : decode b_Mo_factor 109 = .ok (.getfield 78, 3) := by decide +kernel
theorem d_Mo_factor_112 : decode b_Mo_factor 112 = .ok (.invokevirtual 120, 3) := by decide +kernel
theorem d_Mo_factor_115 : decode b_Mo_factor 115 = .ok (.goto 96, 3) := by decide +kernel
theorem d_Mo_factor_118 : decode b_Mo_factor 118 = .ok (.aload_n 0, 1) := by decide +kernel
theorem d_Mo_factor_119 : decode b_Mo_factor 119 = .ok (.getfield 33, 3) := by decide +kernel
theorem d_Mo_factor_122 : decode b_Mo_factor 122 = .ok (.iload_n 1, 1) := by decide +kernel
theorem d_Mo_factor_123 : decode b_Mo_factor 123 = .ok (.iaload, 1) := by decide +kernel
theorem d_Mo_factor_124 : decode b_Mo_factor 124 = .ok (.iconst 2, 1) := by decide +kernel
theorem d_Mo_factor_125 : decode b_Mo_factor 125 = .ok (.if_icmp .eq 22, 3) := by decide +kernel
theorem d_Mo_factor_128 : decode b_Mo_factor 128 = .ok (.iload_n 2, 1) := by decide +kernel
theorem d_Mo_factor_129 : decode b_Mo_factor 129 = .ok (.aload_n 0, 1) := by decide +kernel
theorem d_Mo_factor_130 : decode b_Mo_factor 130 = .ok (.getfield 33, 3) := by decide +kernel
theorem d_Mo_factor_133 : decode b_Mo_factor 133 = .ok (.iload_n 1, 1) := by decide +kernel
theorem d_Mo_factor_134 : decode b_Mo_factor 134 = .ok (.iaload, 1) := by decide +kernel
theorem d_Mo_factor_135 : decode b_Mo_factor 135 = .ok (.iconst 1, 1) := by decide +kernel
theorem d_Mo_factor_136 : decode b_Mo_factor 136 = .ok (.if_icmp .ne 7, 3) := by decide +kernel
theorem d_Mo_factor_139 : decode b_Mo_factor 139 = .ok (.iconst 1, 1) := by decide +kernel
theorem d_Mo_factor_140 : decode b_Mo_factor 140 = .ok (.goto 4, 3) := by decide +kernel
theorem d_Mo_factor_143 : decode b_Mo_factor 143 = .ok (.iconst 0, 1) := by decide +kernel
theorem d_Mo_factor_144 : decode b_Mo_factor 144 = .ok (.if_icmp .eq 15, 3) := by decide +kernel
theorem d_Mo_factor_147 : decode b_Mo_factor 147 = .ok (.aload_n 0, 1) := by decide +kernel
theorem d_Mo_factor_148 : decode b_Mo_factor 148 = .ok (.iconst 4, 1) := by decide +kernel
theorem d_Mo_factor_149 : decode b_Mo_factor 149 = .ok (.aload_n 0, 1) := by decide +kernel
theorem d_Mo_factor_150 : decode b_Mo_factor 150 = .ok (.getfield 78, 3) := by decide +kernel
theorem d_Mo_factor_153 : decode b_Mo_factor 153 = .ok (.invokevirtual 120, 3) := by decide +kernel
theorem d_Mo_factor_156 : decode b_Mo_factor 156 = .ok (.goto 55, 3) := by decide +kernel
theorem d_Mo_factor_159 : decode b_Mo_factor 159 = .ok (.iload_n 2, 1) := by decide +kernel
theorem d_Mo_factor_160 : decode b_Mo_factor 160 = .ok (.ifCond .eq 30, 3) := by decide +kernel
theorem d_Mo_factor_163 : decode b_Mo_factor 163 = .ok (.aload_n 0, 1) := by decide +kernel
theorem d_Mo_factor_164 : decode b_Mo_factor 164 = .ok (.invokevirtual 117, 3) := by decide +kernel
theorem d_Mo_factor_167 : decode b_Mo_factor 167 = .ok (.aload_n 0, 1) := by decide +kernel
theorem d_Mo_factor_168 : decode b_Mo_factor 168 = .ok (.invokevirtual 168, 3) := by decide +kernel
theorem d_Mo_factor_171 : decode b_Mo_factor 171 = .ok (.aload_n 0, 1) := by decide +kernel
theorem d_Mo_factor_172 : decode b_Mo_factor 172 = .ok (.bipush 20, 2) := by decide +kernel
theorem d_Mo_factor_174 : decode b_Mo_factor 174 = .ok (.iload_n 1, 1) := by decide +kernel
theorem d_Mo_factor_175 : decode b_Mo_factor 175 = .ok (.iconst 0, 1) := by decide +kernel
theorem d_Mo_factor_176 : decode b_Mo_factor 176 = .ok (.invokevirtual 162, 3) := by decide +kernel
theorem d_Mo_factor_179 : decode b_Mo_factor 179 = .ok (.aload_n 0, 1) := by decide +kernel
theorem d_Mo_factor_180 : decode b_Mo_factor 180 = .ok (.bipush 14, 2) := by decide +kernel
theorem d_Mo_factor_182 : decode b_Mo_factor 182 = .ok (.iconst 0, 1) := by decide +kernel
theorem d_Mo_factor_183 : decode b_Mo_factor 183 = .ok (.iconst 0, 1) := by decide +kernel
theorem d_Mo_factor_184 : decode b_Mo_factor 184 = .ok (.invokevirtual 162, 3) := by decide +kernel
theorem d_Mo_factor_187 : decode b_Mo_factor 187 = .ok (.goto 24, 3) := by decide +kernel
theorem d_Mo_factor_190 : decode b_Mo_factor 190 = .ok (.aload_n 0, 1) := by decide +kernel
theorem d_Mo_factor_191 : decode b_Mo_factor 191 = .ok (.iconst 1, 1) := by decide +kernel
theorem d_Mo_factor_192 : decode b_Mo_factor 192 = .ok (.aload_n 0, 1) := by decide +kernel
theorem d_Mo_factor_193 : decode b_Mo_factor 193 = .ok (.iload_n 1, 1) := by decide +kernel
theorem d_Mo_factor_194 : decode b_Mo_factor 194 = .ok (.invokevirtual 175, 3) := by decide +kernel
theorem d_Mo_factor_197 : decode b_Mo_factor 197 = .ok (.aload_n 0, 1) := by decide +kernel
theorem d_Mo_factor_198 : decode b_Mo_factor 198 = .ok (.getfield 39, 3) := by decide +kernel
theorem d_Mo_factor_201 : decode b_Mo_factor 201 = .ok (.iload_n 1, 1) := by decide +kernel
theorem d_Mo_factor_202 : decode b_Mo_factor 202 = .ok (.iaload, 1) := by decide +kernel
theorem d_Mo_factor_203 : decode b_Mo_factor 203 = .ok (.invokevirtual 152, 3) := by decide +kernel
theorem d_Mo_factor_206 : decode b_Mo_factor 206 = .ok (.istore_n 3, 1) := by decide +kernel
theorem d_Mo_factor_207 : decode b_Mo_factor 207 = .ok (.aload_n 0, 1) := by decide +kernel
theorem d_Mo_factor_208 : decode b_Mo_factor 208 = .ok (.invokevirtual 117, 3) := by decide +kernel
theorem d_Mo_factor_211 : decode b_Mo_factor 211 = .ok (.return_, 1) := by decide +kernel

def k_factor_147 (x : nM)  : nM := (m_fail x 4 (x.1 4))
def p_factor_147 (x : nM)  : Prop := True
def k_factor_144 (x : nM) (v1 : Int32) (v2 : Int32) (w0 : Int32) (w1 : Int32) : nM := (if w1 = w0 then (if v2 = 0 then (m_goOn ((m_emit x 1 (m_links x v1) (nm_g x 19 v1)).1)) else (m_push (m_push (m_open (m_goOn x)) 20 v1 0) 14 0 0)) else k_factor_147 x)
def p_factor_144 (x : nM) (v1 : Int32) (v2 : Int32) (w0 : Int32) (w1 : Int32) : Prop := ((w1 = w0 → ((v2 = 0 → o_links x v1 ∧ vp_in v1 100 ∧ o_emit x 1 (m_links x v1) (nm_g x 19 v1) ∧ o_goOn ((m_emit x 1 (m_links x v1) (nm_g x 19 v1)).1) ∧ True) ∧ (¬ (v2 = 0) → o_goOn x ∧ o_open (m_goOn x) ∧ o_push (m_open (m_goOn x)) 20 v1 0 ∧ o_push (m_push (m_open (m_goOn x)) 20 v1 0) 14 0 0 ∧ True))) ∧ (¬ (w1 = w0) → p_factor_147 x))
def k_factor_101 (x : nM) (v1 : Int32) (w0 : Int32) : nM := (if 0 ≤ v1 then (if nm_g x 17 v1 = 2 then k_factor_147 x else (if nm_g x 17 v1 = 1 then k_factor_144 x v1 w0 1 w0 else k_factor_144 x v1 w0 0 w0)) else (m_fail x 2 (x.1 4)))
def p_factor_101 (x : nM) (v1 : Int32) (w0 : Int32) : Prop := ((0 ≤ v1 → vp_in v1 100 ∧ ((nm_g x 17 v1 = 2 → p_factor_147 x) ∧ (¬ (nm_g x 17 v1 = 2) → vp_in v1 100 ∧ ((nm_g x 17 v1 = 1 → p_factor_144 x v1 w0 1 w0) ∧ (¬ (nm_g x 17 v1 = 1) → p_factor_144 x v1 w0 0 w0))))) ∧ (¬ (0 ≤ v1) → True))
def m_factor (x : nM)  : nM := (if x.1 3 = 3 then (m_goOn ((m_emit x 0 0 (x.1 5)).1)) else (if x.1 3 = 40 then (m_push (m_push (m_open x) 19 0 0) 14 0 0) else (if x.1 3 = 2 then (if (m_peek x).2 = 91 then k_factor_101 ((m_peek x).1) (m_find x (x.1 5)) 1 else k_factor_101 ((m_peek x).1) (m_find x (x.1 5)) 0) else (m_fail x 1 (x.1 4)))))
def o_factor (x : nM)  : Prop := ((x.1 3 = 3 → o_emit x 0 0 (x.1 5) ∧ o_goOn ((m_emit x 0 0 (x.1 5)).1) ∧ True) ∧ (¬ (x.1 3 = 3) → ((x.1 3 = 40 → o_open x ∧ o_push (m_open x) 19 0 0 ∧ o_push (m_push (m_open x) 19 0 0) 14 0 0 ∧ True) ∧ (¬ (x.1 3 = 40) → ((x.1 3 = 2 → o_find x (x.1 5) ∧ o_peek x ∧ (((m_peek x).2 = 91 → p_factor_101 ((m_peek x).1) (m_find x (x.1 5)) 1) ∧ (¬ ((m_peek x).2 = 91) → p_factor_101 ((m_peek x).1) (m_find x (x.1 5)) 0))) ∧ (¬ (x.1 3 = 2) → True))))))
set_option maxHeartbeats 4000000 in
set_option maxRecDepth 100000 in
theorem t_factor (l : Launch) (G : nn_G) (sz : Nat) (mo : Nat) (ad : Nat → Nat) (x : nM)  (hk : o_factor x) : Met l y_Mo_factor w_Mo_factor ({ frames := 4, cells := 0, slots := 0, locals := 84 }) (nn_P G [.ref mo] (nm_W G mo ad x) sz) (nm_Qv G mo ad (m_factor x) (va_A (nm_W G mo ad x) sz)) 0 0 (va_A (nm_W G mo ad x) sz) := by
  refine Met.ofW (cc := b_Mo_factor) (maxL := 4) (ret := none) (by decide) rfl ?_
  intro p e s m args below meth c s₁ B hml hv
  obtain ⟨rfl, hsz, hP, hK, hD0, hN⟩ := hv
  have hx := B.exec
  have hb := B.bytes
  have hr := B.returns
  have hts := atoms_spec (ws := w_Mo_factor) B.pre
  have hg : ∀ w ∈ nn_gw, w.before _ s = true := fun w h => hts w (List.mem_cons_of_mem _ h)
  have hown : s.vm.findClass R_Mo = some m.cls := findClass_of_methodNamed B.named
  subst hsz
  have hD := hD0.self (sz := s.heap.size)
  generalize hAe : va_A (nm_W G mo ad x) s.heap.size = A at hD ⊢
  have hA : ∀ q : Nat, s.heap.size ≤ q → A q := fun q h => by rw [← hAe]; exact Or.inr h
  clear hAe
  have hS : va_S A s.heap s.heap [] := va_S.rf
  have hP : va_P G.1 nn_cls (nm_W G mo ad x) s.heap := hP
  have hl := lv_entry ([.ref mo]) (n := 4) (Nat.le_of_ble_eq_true rfl)
  rw [lg_entry_eq]
  generalize (lg_sl ([.ref mo]) ++ List.replicate (4 - (lg_sl ([.ref mo])).length) Slot.unset).toArray = ls at hl ⊢
  have hl : lv_has ls 4 [(0, .ref mo)] := hl
  have J147 : ∀ (x : nM)  (ls : Array Slot) (H : Heap) (locs : List Loc), p_factor_147 x → lv_has ls 4 [(0, .ref mo)] → va_P G.1 nn_cls (nm_W G mo ad x) H → va_D A (nm_W G mo ad x) → va_S A s.heap H locs → W p l e (headSpec w_Mo_factor ({ frames := 4, cells := 0, slots := 0, locals := 84 })).room s m [.ref mo].toArray below meth c H locs 0 0 (MQ below (nm_Qv G mo ad (k_factor_147 x) A) [.ref mo].toArray s 0 0 A) (F0 m 147 ls []) := by
    intro x  ls H locs hk hl hP hD hS
    unfold p_factor_147 at hk
    refine lv_aload_n hx hb d_Mo_factor_147 rfl (lv_at hl 0 rfl) ?_
    refine lv_iconst (v := 4) hx hb d_Mo_factor_148 (by decide) ?_
    refine lv_aload_n hx hb d_Mo_factor_149 rfl (lv_at hl 0 rfl) ?_
    refine nm_get hx hb hg hown hK hP 4 (by decide) (by decide) (hg _ mw_894) d_Mo_factor_150 ?_
    have hFc := nm_free hD hS hA
    refine va_callv (va_runV (As := [.int 4, .int (x.1 4)]) (rest := []) ⟨hx, hb, hml, hown, hts⟩ (t_fail l G _ mo ad x 4 (x.1 4)) (cwV 2 hts (nn_gV mw_1080 mw_1077 mw_1079 mw_56 mw_94) rfl rfl rfl (by decide +kernel) ⟨Nat.le_of_ble_eq_true rfl, Nat.le_of_ble_eq_true rfl⟩) (nn_preV (va_recv hK hP rfl (q0 := 0) rfl) hP hD hK hN) rfl rfl hl.1 rfl (lv_room (Nat.le_of_ble_eq_true rfl)) d_Mo_factor_153 ⟨Nat.le_of_ble_eq_true rfl, Nat.le_of_ble_eq_true rfl⟩) hS (fun q _ h => hFc q h) hFc (fun u t H locs ht hvm hw hB hz1 hk1 hS => ?_)
    obtain ⟨hP1, hD1⟩ := hB
    rw [ht] at hP1
    have hP := hP1
    have hD := hD1.weaken (fun _ _ _ h => hFc _ h)
    refine lv_goto (tgt := 211) hx hb d_Mo_factor_156 rfl ?_
    have hR : k_factor_147 x = m_fail x 4 (x.1 4) := by rw [k_factor_147]
    refine nm_W1 hR ?_
    exact W.vret hx hb hr (fun t ht hW => ⟨⟨(), rfl, trivial, ⟨by rw [ht]; exact hP, hD⟩⟩, hS.F ht⟩) hS.2.2 d_Mo_factor_211
  have J144 : ∀ (x : nM) (v1 : Int32) (v2 : Int32) (w0 : Int32) (w1 : Int32) (ls : Array Slot) (H : Heap) (locs : List Loc), p_factor_144 x v1 v2 w0 w1 → lv_has ls 4 [(0, .ref mo), (1, .int v1), (2, .int v2)] → va_P G.1 nn_cls (nm_W G mo ad x) H → va_D A (nm_W G mo ad x) → va_S A s.heap H locs → W p l e (headSpec w_Mo_factor ({ frames := 4, cells := 0, slots := 0, locals := 84 })).room s m [.ref mo].toArray below meth c H locs 0 0 (MQ below (nm_Qv G mo ad (k_factor_144 x v1 v2 w0 w1) A) [.ref mo].toArray s 0 0 A) (F0 m 144 ls [.int w0, .int w1]) := by
    intro x v1 v2 w0 w1 ls H locs hk hl hP hD hS
    unfold p_factor_144 at hk
    refine lv_icmp_eq (tgt := 159) hx hb d_Mo_factor_144 rfl (fun hc144 => ?_) (fun hc144 => ?_)
    · skip
      have hk := hk.1 hc144
      refine lv_iload_n hx hb d_Mo_factor_159 rfl (lv_at hl 2 rfl) ?_
      refine lv_if_eq (tgt := 190) hx hb d_Mo_factor_160 rfl (fun hc160 => ?_) (fun hc160 => ?_)
      · skip
        have hk := hk.1 hc160
        refine lv_aload_n hx hb d_Mo_factor_190 rfl (lv_at hl 0 rfl) ?_
        refine lv_iconst (v := 1) hx hb d_Mo_factor_191 (by decide) ?_
        refine lv_aload_n hx hb d_Mo_factor_192 rfl (lv_at hl 0 rfl) ?_
        refine lv_iload_n hx hb d_Mo_factor_193 rfl (lv_at hl 1 rfl) ?_
        obtain ⟨hi, hk⟩ := hk
        refine vp_callSi (va_Run.run (va_runV (As := [.int v1]) (rest := [.int 1, .ref mo]) ⟨hx, hb, hml, hown, hts⟩ (t_links l G _ mo ad x v1 hi) (cwV 1 hts (nn_gV mw_1124 mw_1121 mw_1123 mw_67 mw_94) rfl rfl rfl (by decide +kernel) ⟨Nat.le_of_ble_eq_true rfl, Nat.le_of_ble_eq_true rfl⟩) (nn_preV (va_recv hK hP rfl (q0 := 0) rfl) hP hD hK hN) rfl rfl hl.1 rfl (lv_room (Nat.le_of_ble_eq_true rfl)) d_Mo_factor_194 ⟨Nat.le_of_ble_eq_true rfl, Nat.le_of_ble_eq_true rfl⟩)) (fun r2 er2 => ?_)
        subst er2
        refine lv_aload_n hx hb d_Mo_factor_197 rfl (lv_at hl 0 rfl) ?_
        refine nm_getA hx hb hg hown hK hP 19 (by decide) (by decide) (hg _ mw_909) d_Mo_factor_198 ?_
        refine lv_iload_n hx hb d_Mo_factor_201 rfl (lv_at hl 1 rfl) ?_
        obtain ⟨hi, hk⟩ := hk
        refine nm_ld hx hb hK hP 19 7 rfl (by decide) hi d_Mo_factor_202 ?_
        obtain ⟨hi, hk⟩ := hk
        have hFc := nm_free hD hS hA
        refine va_calli (va_runV (As := [.int 1, .int (m_links x v1), .int (nm_g x 19 v1)]) (rest := []) ⟨hx, hb, hml, hown, hts⟩ (t_emit l G _ mo ad x 1 (m_links x v1) (nm_g x 19 v1) hi) (cwV 3 hts (nn_gV mw_1060 mw_1057 mw_1059 mw_51 mw_94) rfl rfl rfl (by decide +kernel) ⟨Nat.le_of_ble_eq_true rfl, Nat.le_of_ble_eq_true rfl⟩) (nn_preV (va_recv hK hP rfl (q0 := 0) rfl) hP hD hK hN) rfl rfl hl.1 rfl (lv_room (Nat.le_of_ble_eq_true rfl)) d_Mo_factor_203 ⟨Nat.le_of_ble_eq_true rfl, Nat.le_of_ble_eq_true rfl⟩) hS (fun q _ h => hFc q h) hFc (fun r3 u t H locs ht hvm hw hB hz1 hk1 hS => ?_)
        subst hw
        obtain ⟨hP1, hD1⟩ := hB
        rw [ht] at hP1
        have hP := hP1
        have hD := hD1.weaken (fun _ _ _ h => hFc _ h)
        refine lv_istore_n (lv' := [(3, .int ((m_emit x 1 (m_links x v1) (nm_g x 19 v1)).2)), (0, .ref mo), (1, .int v1), (2, .int v2)]) hx hb d_Mo_factor_206 rfl hl (by decide) rfl (fun ls hl => ?_)
        refine lv_aload_n hx hb d_Mo_factor_207 rfl (lv_at hl 1 rfl) ?_
        obtain ⟨hi, hk⟩ := hk
        have hFc := nm_free hD hS hA
        refine va_callv (va_runV (As := []) (rest := []) ⟨hx, hb, hml, hown, hts⟩ (t_goOn l G _ mo ad ((m_emit x 1 (m_links x v1) (nm_g x 19 v1)).1) hi) (cwV 0 hts (nn_gV mw_1068 mw_1065 mw_1067 mw_53 mw_94) rfl rfl rfl (by decide +kernel) ⟨Nat.le_of_ble_eq_true rfl, Nat.le_of_ble_eq_true rfl⟩) (nn_preV (va_recv hK hP rfl (q0 := 0) rfl) hP hD hK hN) rfl rfl hl.1 rfl (lv_room (Nat.le_of_ble_eq_true rfl)) d_Mo_factor_208 ⟨Nat.le_of_ble_eq_true rfl, Nat.le_of_ble_eq_true rfl⟩) hS (fun q _ h => hFc q h) hFc (fun u t H locs ht hvm hw hB hz1 hk1 hS => ?_)
        obtain ⟨hP1, hD1⟩ := hB
        rw [ht] at hP1
        have hP := hP1
        have hD := hD1.weaken (fun _ _ _ h => hFc _ h)
        have hR : k_factor_144 x v1 v2 w0 w1 = m_goOn ((m_emit x 1 (m_links x v1) (nm_g x 19 v1)).1) := by rw [k_factor_144]; rw [if_pos hc144]; rw [if_pos hc160]
        refine nm_W1 hR ?_
        exact W.vret hx hb hr (fun t ht hW => ⟨⟨(), rfl, trivial, ⟨by rw [ht]; exact hP, hD⟩⟩, hS.F ht⟩) hS.2.2 d_Mo_factor_211
      · skip
        have hk := hk.2 hc160
        refine lv_aload_n hx hb d_Mo_factor_163 rfl (lv_at hl 0 rfl) ?_
        obtain ⟨hi, hk⟩ := hk
        have hFc := nm_free hD hS hA
        refine va_callv (va_runV (As := []) (rest := []) ⟨hx, hb, hml, hown, hts⟩ (t_goOn l G _ mo ad x hi) (cwV 0 hts (nn_gV mw_1068 mw_1065 mw_1067 mw_53 mw_94) rfl rfl rfl (by decide +kernel) ⟨Nat.le_of_ble_eq_true rfl, Nat.le_of_ble_eq_true rfl⟩) (nn_preV (va_recv hK hP rfl (q0 := 0) rfl) hP hD hK hN) rfl rfl hl.1 rfl (lv_room (Nat.le_of_ble_eq_true rfl)) d_Mo_factor_164 ⟨Nat.le_of_ble_eq_true rfl, Nat.le_of_ble_eq_true rfl⟩) hS (fun q _ h => hFc q h) hFc (fun u t H locs ht hvm hw hB hz1 hk1 hS => ?_)
        obtain ⟨hP1, hD1⟩ := hB
        rw [ht] at hP1
        have hP := hP1
        have hD := hD1.weaken (fun _ _ _ h => hFc _ h)
        refine lv_aload_n hx hb d_Mo_factor_167 rfl (lv_at hl 0 rfl) ?_
        obtain ⟨hi, hk⟩ := hk
        have hFc := nm_free hD hS hA
        refine va_callv (va_runV (As := []) (rest := []) ⟨hx, hb, hml, hown, hts⟩ (t_open l G _ mo ad (m_goOn x) hi) (cwV 0 hts (nn_gV mw_1116 mw_1113 mw_1115 mw_65 mw_94) rfl rfl rfl (by decide +kernel) ⟨Nat.le_of_ble_eq_true rfl, Nat.le_of_ble_eq_true rfl⟩) (nn_preV (va_recv hK hP rfl (q0 := 0) rfl) hP hD hK hN) rfl rfl hl.1 rfl (lv_room (Nat.le_of_ble_eq_true rfl)) d_Mo_factor_168 ⟨Nat.le_of_ble_eq_true rfl, Nat.le_of_ble_eq_true rfl⟩) hS (fun q _ h => hFc q h) hFc (fun u t H locs ht hvm hw hB hz1 hk1 hS => ?_)
        obtain ⟨hP1, hD1⟩ := hB
        rw [ht] at hP1
        have hP := hP1
        have hD := hD1.weaken (fun _ _ _ h => hFc _ h)
        refine lv_aload_n hx hb d_Mo_factor_171 rfl (lv_at hl 0 rfl) ?_
        refine lv_bipush (v := 20) hx hb d_Mo_factor_172 (by decide) ?_
        refine lv_iload_n hx hb d_Mo_factor_174 rfl (lv_at hl 1 rfl) ?_
        refine lv_iconst (v := 0) hx hb d_Mo_factor_175 (by decide) ?_
        obtain ⟨hi, hk⟩ := hk
        have hFc := nm_free hD hS hA
        refine va_callv (va_runV (As := [.int 20, .int v1, .int 0]) (rest := []) ⟨hx, hb, hml, hown, hts⟩ (t_push l G _ mo ad (m_open (m_goOn x)) 20 v1 0 hi) (cwV 3 hts (nn_gV mw_1028 mw_1025 mw_1027 mw_46 mw_94) rfl rfl rfl (by decide +kernel) ⟨Nat.le_of_ble_eq_true rfl, Nat.le_of_ble_eq_true rfl⟩) (nn_preV (va_recv hK hP rfl (q0 := 0) rfl) hP hD hK hN) rfl rfl hl.1 rfl (lv_room (Nat.le_of_ble_eq_true rfl)) d_Mo_factor_176 ⟨Nat.le_of_ble_eq_true rfl, Nat.le_of_ble_eq_true rfl⟩) hS (fun q _ h => hFc q h) hFc (fun u t H locs ht hvm hw hB hz1 hk1 hS => ?_)
        obtain ⟨hP1, hD1⟩ := hB
        rw [ht] at hP1
        have hP := hP1
        have hD := hD1.weaken (fun _ _ _ h => hFc _ h)
        refine lv_aload_n hx hb d_Mo_factor_179 rfl (lv_at hl 0 rfl) ?_
        refine lv_bipush (v := 14) hx hb d_Mo_factor_180 (by decide) ?_
        refine lv_iconst (v := 0) hx hb d_Mo_factor_182 (by decide) ?_
        refine lv_iconst (v := 0) hx hb d_Mo_factor_183 (by decide) ?_
        obtain ⟨hi, hk⟩ := hk
        have hFc := nm_free hD hS hA
        refine va_callv (va_runV (As := [.int 14, .int 0, .int 0]) (rest := []) ⟨hx, hb, hml, hown, hts⟩ (t_push l G _ mo ad (m_push (m_open (m_goOn x)) 20 v1 0) 14 0 0 hi) (cwV 3 hts (nn_gV mw_1028 mw_1025 mw_1027 mw_46 mw_94) rfl rfl rfl (by decide +kernel) ⟨Nat.le_of_ble_eq_true rfl, Nat.le_of_ble_eq_true rfl⟩) (nn_preV (va_recv hK hP rfl (q0 := 0) rfl) hP hD hK hN) rfl rfl hl.1 rfl (lv_room (Nat.le_of_ble_eq_true rfl)) d_Mo_factor_184 ⟨Nat.le_of_ble_eq_true rfl, Nat.le_of_ble_eq_true rfl⟩) hS (fun q _ h => hFc q h) hFc (fun u t H locs ht hvm hw hB hz1 hk1 hS => ?_)
        obtain ⟨hP1, hD1⟩ := hB
        rw [ht] at hP1
        have hP := hP1
        have hD := hD1.weaken (fun _ _ _ h => hFc _ h)
        refine lv_goto (tgt := 211) hx hb d_Mo_factor_187 rfl ?_
        have hR : k_factor_144 x v1 v2 w0 w1 = m_push (m_push (m_open (m_goOn x)) 20 v1 0) 14 0 0 := by rw [k_factor_144]; rw [if_pos hc144]; rw [if_neg hc160]
        refine nm_W1 hR ?_
        exact W.vret hx hb hr (fun t ht hW => ⟨⟨(), rfl, trivial, ⟨by rw [ht]; exact hP, hD⟩⟩, hS.F ht⟩) hS.2.2 d_Mo_factor_211
    · skip
      have hk := hk.2 hc144
      have hl := lv_sub (l' := [(0, .ref mo)]) hl [0] rfl
      have hR : k_factor_144 x v1 v2 w0 w1 = k_factor_147 x := by rw [k_factor_144]; rw [if_neg hc144]
      exact nm_W1 hR (J147 x ls _ _ hk hl hP hD hS)
  have J101 : ∀ (x : nM) (v1 : Int32) (w0 : Int32) (ls : Array Slot) (H : Heap) (locs : List Loc), p_factor_101 x v1 w0 → lv_has ls 4 [(0, .ref mo), (1, .int v1)] → va_P G.1 nn_cls (nm_W G mo ad x) H → va_D A (nm_W G mo ad x) → va_S A s.heap H locs → W p l e (headSpec w_Mo_factor ({ frames := 4, cells := 0, slots := 0, locals := 84 })).room s m [.ref mo].toArray below meth c H locs 0 0 (MQ below (nm_Qv G mo ad (k_factor_101 x v1 w0) A) [.ref mo].toArray s 0 0 A) (F0 m 101 ls [.int w0]) := by
    intro x v1 w0 ls H locs hk hl hP hD hS
    unfold p_factor_101 at hk
    refine lv_istore_n (lv' := [(2, .int w0), (0, .ref mo), (1, .int v1)]) hx hb d_Mo_factor_101 rfl hl (by decide) rfl (fun ls hl => ?_)
    refine lv_iload_n hx hb d_Mo_factor_102 rfl (lv_at hl 2 rfl) ?_
    refine lv_if_ge (tgt := 118) hx hb d_Mo_factor_103 rfl (fun hc103 => ?_) (fun hc103 => ?_)
    · skip
      have hk := hk.1 hc103
      refine lv_aload_n hx hb d_Mo_factor_118 rfl (lv_at hl 1 rfl) ?_
      refine nm_getA hx hb hg hown hK hP 17 (by decide) (by decide) (hg _ mw_907) d_Mo_factor_119 ?_
      refine lv_iload_n hx hb d_Mo_factor_122 rfl (lv_at hl 2 rfl) ?_
      obtain ⟨hi, hk⟩ := hk
      refine nm_ld hx hb hK hP 17 5 rfl (by decide) hi d_Mo_factor_123 ?_
      refine lv_iconst (v := 2) hx hb d_Mo_factor_124 (by decide) ?_
      refine lv_icmp_eq (tgt := 147) hx hb d_Mo_factor_125 rfl (fun hc125 => ?_) (fun hc125 => ?_)
      · skip
        have hk := hk.1 hc125
        have hl := lv_sub (l' := [(0, .ref mo)]) hl [1] rfl
        have hR : k_factor_101 x v1 w0 = k_factor_147 x := by rw [k_factor_101]; rw [if_pos hc103]; rw [if_pos hc125]
        exact nm_W1 hR (J147 x ls _ _ hk hl hP hD hS)
      · skip
        have hk := hk.2 hc125
        refine lv_iload_n hx hb d_Mo_factor_128 rfl (lv_at hl 0 rfl) ?_
        refine lv_aload_n hx hb d_Mo_factor_129 rfl (lv_at hl 1 rfl) ?_
        refine nm_getA hx hb hg hown hK hP 17 (by decide) (by decide) (hg _ mw_907) d_Mo_factor_130 ?_
        refine lv_iload_n hx hb d_Mo_factor_133 rfl (lv_at hl 2 rfl) ?_
        obtain ⟨hi, hk⟩ := hk
        refine nm_ld hx hb hK hP 17 5 rfl (by decide) hi d_Mo_factor_134 ?_
        refine lv_iconst (v := 1) hx hb d_Mo_factor_135 (by decide) ?_
        refine lv_icmp_ne (tgt := 143) hx hb d_Mo_factor_136 rfl (fun hc136 => ?_) (fun hc136 => ?_)
        · skip
          have hk := hk.2 hc136
          refine lv_iconst (v := 0) hx hb d_Mo_factor_143 (by decide) ?_
          have hl := lv_sub (l' := [(0, .ref mo), (1, .int v1), (2, .int w0)]) hl [1, 2, 0] rfl
          have hR : k_factor_101 x v1 w0 = k_factor_144 x v1 w0 0 w0 := by rw [k_factor_101]; rw [if_pos hc103]; rw [if_neg hc125]; rw [if_neg hc136]
          exact nm_W1 hR (J144 x v1 w0 0 w0 ls _ _ hk hl hP hD hS)
        · skip
          have hk := hk.1 hc136
          refine lv_iconst (v := 1) hx hb d_Mo_factor_139 (by decide) ?_
          refine lv_goto (tgt := 144) hx hb d_Mo_factor_140 rfl ?_
          have hl := lv_sub (l' := [(0, .ref mo), (1, .int v1), (2, .int w0)]) hl [1, 2, 0] rfl
          have hR : k_factor_101 x v1 w0 = k_factor_144 x v1 w0 1 w0 := by rw [k_factor_101]; rw [if_pos hc103]; rw [if_neg hc125]; rw [if_pos hc136]
          exact nm_W1 hR (J144 x v1 w0 1 w0 ls _ _ hk hl hP hD hS)
    · skip
      have hk := hk.2 hc103
      refine lv_aload_n hx hb d_Mo_factor_106 rfl (lv_at hl 1 rfl) ?_
      refine lv_iconst (v := 2) hx hb d_Mo_factor_107 (by decide) ?_
      refine lv_aload_n hx hb d_Mo_factor_108 rfl (lv_at hl 1 rfl) ?_
      refine nm_get hx hb hg hown hK hP 4 (by decide) (by decide) (hg _ mw_894) d_Mo_factor_109 ?_
      have hFc := nm_free hD hS hA
      refine va_callv (va_runV (As := [.int 2, .int (x.1 4)]) (rest := []) ⟨hx, hb, hml, hown, hts⟩ (t_fail l G _ mo ad x 2 (x.1 4)) (cwV 2 hts (nn_gV mw_1080 mw_1077 mw_1079 mw_56 mw_94) rfl rfl rfl (by decide +kernel) ⟨Nat.le_of_ble_eq_true rfl, Nat.le_of_ble_eq_true rfl⟩) (nn_preV (va_recv hK hP rfl (q0 := 0) rfl) hP hD hK hN) rfl rfl hl.1 rfl (lv_room (Nat.le_of_ble_eq_true rfl)) d_Mo_factor_112 ⟨Nat.le_of_ble_eq_true rfl, Nat.le_of_ble_eq_true rfl⟩) hS (fun q _ h => hFc q h) hFc (fun u t H locs ht hvm hw hB hz1 hk1 hS => ?_)
      obtain ⟨hP1, hD1⟩ := hB
      rw [ht] at hP1
      have hP := hP1
      have hD := hD1.weaken (fun _ _ _ h => hFc _ h)
      refine lv_goto (tgt := 211) hx hb d_Mo_factor_115 rfl ?_
      have hR : k_factor_101 x v1 w0 = m_fail x 2 (x.1 4) := by rw [k_factor_101]; rw [if_neg hc103]
      refine nm_W1 hR ?_
      exact W.vret hx hb hr (fun t ht hW => ⟨⟨(), rfl, trivial, ⟨by rw [ht]; exact hP, hD⟩⟩, hS.F ht⟩) hS.2.2 d_Mo_factor_211
  unfold o_factor at hk
  refine lv_aload_n hx hb d_Mo_factor_0 rfl (lv_at hl 0 rfl) ?_
  refine nm_get hx hb hg hown hK hP 3 (by decide) (by decide) (hg _ mw_893) d_Mo_factor_1 ?_
  refine lv_iconst (v := 3) hx hb d_Mo_factor_4 (by decide) ?_
  refine lv_icmp_ne (tgt := 26) hx hb d_Mo_factor_5 rfl (fun hc5 => ?_) (fun hc5 => ?_)
  · skip
    have hk := hk.2 hc5
    refine lv_aload_n hx hb d_Mo_factor_26 rfl (lv_at hl 0 rfl) ?_
    refine nm_get hx hb hg hown hK hP 3 (by decide) (by decide) (hg _ mw_893) d_Mo_factor_27 ?_
    refine lv_bipush (v := 40) hx hb d_Mo_factor_30 (by decide) ?_
    refine lv_icmp_ne (tgt := 58) hx hb d_Mo_factor_32 rfl (fun hc32 => ?_) (fun hc32 => ?_)
    · skip
      have hk := hk.2 hc32
      refine lv_aload_n hx hb d_Mo_factor_58 rfl (lv_at hl 0 rfl) ?_
      refine nm_get hx hb hg hown hK hP 3 (by decide) (by decide) (hg _ mw_893) d_Mo_factor_59 ?_
      refine lv_iconst (v := 2) hx hb d_Mo_factor_62 (by decide) ?_
      refine lv_icmp_eq (tgt := 78) hx hb d_Mo_factor_63 rfl (fun hc63 => ?_) (fun hc63 => ?_)
      · skip
        have hk := hk.1 hc63
        refine lv_aload_n hx hb d_Mo_factor_78 rfl (lv_at hl 0 rfl) ?_
        refine lv_aload_n hx hb d_Mo_factor_79 rfl (lv_at hl 0 rfl) ?_
        refine nm_get hx hb hg hown hK hP 5 (by decide) (by decide) (hg _ mw_895) d_Mo_factor_80 ?_
        obtain ⟨hi, hk⟩ := hk
        refine vp_callSi (va_Run.run (va_runV (As := [.int (x.1 5)]) (rest := []) ⟨hx, hb, hml, hown, hts⟩ (t_find l G _ mo ad x (x.1 5) hi) (cwV 1 hts (nn_gV mw_1076 mw_1073 mw_1075 mw_55 mw_94) rfl rfl rfl (by decide +kernel) ⟨Nat.le_of_ble_eq_true rfl, Nat.le_of_ble_eq_true rfl⟩) (nn_preV (va_recv hK hP rfl (q0 := 0) rfl) hP hD hK hN) rfl rfl hl.1 rfl (lv_room (Nat.le_of_ble_eq_true rfl)) d_Mo_factor_83 ⟨Nat.le_of_ble_eq_true rfl, Nat.le_of_ble_eq_true rfl⟩)) (fun r10 er10 => ?_)
        subst er10
        refine lv_istore_n (lv' := [(1, .int (m_find x (x.1 5))), (0, .ref mo)]) hx hb d_Mo_factor_86 rfl hl (by decide) rfl (fun ls hl => ?_)
        refine lv_aload_n hx hb d_Mo_factor_87 rfl (lv_at hl 1 rfl) ?_
        obtain ⟨hi, hk⟩ := hk
        have hFc := nm_free hD hS hA
        refine va_calli (va_runV (As := []) (rest := []) ⟨hx, hb, hml, hown, hts⟩ (t_peek l G _ mo ad x hi) (cwV 0 hts (nn_gV mw_1108 mw_1105 mw_1107 mw_63 mw_94) rfl rfl rfl (by decide +kernel) ⟨Nat.le_of_ble_eq_true rfl, Nat.le_of_ble_eq_true rfl⟩) (nn_preV (va_recv hK hP rfl (q0 := 0) rfl) hP hD hK hN) rfl rfl hl.1 rfl (lv_room (Nat.le_of_ble_eq_true rfl)) d_Mo_factor_88 ⟨Nat.le_of_ble_eq_true rfl, Nat.le_of_ble_eq_true rfl⟩) hS (fun q _ h => hFc q h) hFc (fun r11 u t H locs ht hvm hw hB hz1 hk1 hS => ?_)
        subst hw
        obtain ⟨hP1, hD1⟩ := hB
        rw [ht] at hP1
        have hP := hP1
        have hD := hD1.weaken (fun _ _ _ h => hFc _ h)
        refine lv_bipush (v := 91) hx hb d_Mo_factor_91 (by decide) ?_
        refine lv_icmp_ne (tgt := 100) hx hb d_Mo_factor_93 rfl (fun hc93 => ?_) (fun hc93 => ?_)
        · skip
          have hk := hk.2 hc93
          refine lv_iconst (v := 0) hx hb d_Mo_factor_100 (by decide) ?_
          have hl := lv_sub (l' := [(0, .ref mo), (1, .int (m_find x (x.1 5)))]) hl [1, 0] rfl
          have hR : m_factor x = k_factor_101 ((m_peek x).1) (m_find x (x.1 5)) 0 := by rw [m_factor]; rw [if_neg hc5]; rw [if_neg hc32]; rw [if_pos hc63]; rw [if_neg hc93]
          exact nm_W1 hR (J101 ((m_peek x).1) (m_find x (x.1 5)) 0 ls _ _ hk hl hP hD hS)
        · skip
          have hk := hk.1 hc93
          refine lv_iconst (v := 1) hx hb d_Mo_factor_96 (by decide) ?_
          refine lv_goto (tgt := 101) hx hb d_Mo_factor_97 rfl ?_
          have hl := lv_sub (l' := [(0, .ref mo), (1, .int (m_find x (x.1 5)))]) hl [1, 0] rfl
          have hR : m_factor x = k_factor_101 ((m_peek x).1) (m_find x (x.1 5)) 1 := by rw [m_factor]; rw [if_neg hc5]; rw [if_neg hc32]; rw [if_pos hc63]; rw [if_pos hc93]
          exact nm_W1 hR (J101 ((m_peek x).1) (m_find x (x.1 5)) 1 ls _ _ hk hl hP hD hS)
      · skip
        have hk := hk.2 hc63
        refine lv_aload_n hx hb d_Mo_factor_66 rfl (lv_at hl 0 rfl) ?_
        refine lv_iconst (v := 1) hx hb d_Mo_factor_67 (by decide) ?_
        refine lv_aload_n hx hb d_Mo_factor_68 rfl (lv_at hl 0 rfl) ?_
        refine nm_get hx hb hg hown hK hP 4 (by decide) (by decide) (hg _ mw_894) d_Mo_factor_69 ?_
        have hFc := nm_free hD hS hA
        refine va_callv (va_runV (As := [.int 1, .int (x.1 4)]) (rest := []) ⟨hx, hb, hml, hown, hts⟩ (t_fail l G _ mo ad x 1 (x.1 4)) (cwV 2 hts (nn_gV mw_1080 mw_1077 mw_1079 mw_56 mw_94) rfl rfl rfl (by decide +kernel) ⟨Nat.le_of_ble_eq_true rfl, Nat.le_of_ble_eq_true rfl⟩) (nn_preV (va_recv hK hP rfl (q0 := 0) rfl) hP hD hK hN) rfl rfl hl.1 rfl (lv_room (Nat.le_of_ble_eq_true rfl)) d_Mo_factor_72 ⟨Nat.le_of_ble_eq_true rfl, Nat.le_of_ble_eq_true rfl⟩) hS (fun q _ h => hFc q h) hFc (fun u t H locs ht hvm hw hB hz1 hk1 hS => ?_)
        obtain ⟨hP1, hD1⟩ := hB
        rw [ht] at hP1
        have hP := hP1
        have hD := hD1.weaken (fun _ _ _ h => hFc _ h)
        refine lv_goto (tgt := 211) hx hb d_Mo_factor_75 rfl ?_
        have hR : m_factor x = m_fail x 1 (x.1 4) := by rw [m_factor]; rw [if_neg hc5]; rw [if_neg hc32]; rw [if_neg hc63]
        refine nm_W1 hR ?_
        exact W.vret hx hb hr (fun t ht hW => ⟨⟨(), rfl, trivial, ⟨by rw [ht]; exact hP, hD⟩⟩, hS.F ht⟩) hS.2.2 d_Mo_factor_211
    · skip
      have hk := hk.1 hc32
      refine lv_aload_n hx hb d_Mo_factor_35 rfl (lv_at hl 0 rfl) ?_
      obtain ⟨hi, hk⟩ := hk
      have hFc := nm_free hD hS hA
      refine va_callv (va_runV (As := []) (rest := []) ⟨hx, hb, hml, hown, hts⟩ (t_open l G _ mo ad x hi) (cwV 0 hts (nn_gV mw_1116 mw_1113 mw_1115 mw_65 mw_94) rfl rfl rfl (by decide +kernel) ⟨Nat.le_of_ble_eq_true rfl, Nat.le_of_ble_eq_true rfl⟩) (nn_preV (va_recv hK hP rfl (q0 := 0) rfl) hP hD hK hN) rfl rfl hl.1 rfl (lv_room (Nat.le_of_ble_eq_true rfl)) d_Mo_factor_36 ⟨Nat.le_of_ble_eq_true rfl, Nat.le_of_ble_eq_true rfl⟩) hS (fun q _ h => hFc q h) hFc (fun u t H locs ht hvm hw hB hz1 hk1 hS => ?_)
      obtain ⟨hP1, hD1⟩ := hB
      rw [ht] at hP1
      have hP := hP1
      have hD := hD1.weaken (fun _ _ _ h => hFc _ h)
      refine lv_aload_n hx hb d_Mo_factor_39 rfl (lv_at hl 0 rfl) ?_
      refine lv_bipush (v := 19) hx hb d_Mo_factor_40 (by decide) ?_
      refine lv_iconst (v := 0) hx hb d_Mo_factor_42 (by decide) ?_
      refine lv_iconst (v := 0) hx hb d_Mo_factor_43 (by decide) ?_
      obtain ⟨hi, hk⟩ := hk
      have hFc := nm_free hD hS hA
      refine va_callv (va_runV (As := [.int 19, .int 0, .int 0]) (rest := []) ⟨hx, hb, hml, hown, hts⟩ (t_push l G _ mo ad (m_open x) 19 0 0 hi) (cwV 3 hts (nn_gV mw_1028 mw_1025 mw_1027 mw_46 mw_94) rfl rfl rfl (by decide +kernel) ⟨Nat.le_of_ble_eq_true rfl, Nat.le_of_ble_eq_true rfl⟩) (nn_preV (va_recv hK hP rfl (q0 := 0) rfl) hP hD hK hN) rfl rfl hl.1 rfl (lv_room (Nat.le_of_ble_eq_true rfl)) d_Mo_factor_44 ⟨Nat.le_of_ble_eq_true rfl, Nat.le_of_ble_eq_true rfl⟩) hS (fun q _ h => hFc q h) hFc (fun u t H locs ht hvm hw hB hz1 hk1 hS => ?_)
      obtain ⟨hP1, hD1⟩ := hB
      rw [ht] at hP1
      have hP := hP1
      have hD := hD1.weaken (fun _ _ _ h => hFc _ h)
      refine lv_aload_n hx hb d_Mo_factor_47 rfl (lv_at hl 0 rfl) ?_
      refine lv_bipush (v := 14) hx hb d_Mo_factor_48 (by decide) ?_
      refine lv_iconst (v := 0) hx hb d_Mo_factor_50 (by decide) ?_
      refine lv_iconst (v := 0) hx hb d_Mo_factor_51 (by decide) ?_
      obtain ⟨hi, hk⟩ := hk
      have hFc := nm_free hD hS hA
      refine va_callv (va_runV (As := [.int 14, .int 0, .int 0]) (rest := []) ⟨hx, hb, hml, hown, hts⟩ (t_push l G _ mo ad (m_push (m_open x) 19 0 0) 14 0 0 hi) (cwV 3 hts (nn_gV mw_1028 mw_1025 mw_1027 mw_46 mw_94) rfl rfl rfl (by decide +kernel) ⟨Nat.le_of_ble_eq_true rfl, Nat.le_of_ble_eq_true rfl⟩) (nn_preV (va_recv hK hP rfl (q0 := 0) rfl) hP hD hK hN) rfl rfl hl.1 rfl (lv_room (Nat.le_of_ble_eq_true rfl)) d_Mo_factor_52 ⟨Nat.le_of_ble_eq_true rfl, Nat.le_of_ble_eq_true rfl⟩) hS (fun q _ h => hFc q h) hFc (fun u t H locs ht hvm hw hB hz1 hk1 hS => ?_)
      obtain ⟨hP1, hD1⟩ := hB
      rw [ht] at hP1
      have hP := hP1
      have hD := hD1.weaken (fun _ _ _ h => hFc _ h)
      refine lv_goto (tgt := 211) hx hb d_Mo_factor_55 rfl ?_
      have hR : m_factor x = m_push (m_push (m_open x) 19 0 0) 14 0 0 := by rw [m_factor]; rw [if_neg hc5]; rw [if_pos hc32]
      refine nm_W1 hR ?_
      exact W.vret hx hb hr (fun t ht hW => ⟨⟨(), rfl, trivial, ⟨by rw [ht]; exact hP, hD⟩⟩, hS.F ht⟩) hS.2.2 d_Mo_factor_211
  · skip
    have hk := hk.1 hc5
    refine lv_aload_n hx hb d_Mo_factor_8 rfl (lv_at hl 0 rfl) ?_
    refine lv_iconst (v := 0) hx hb d_Mo_factor_9 (by decide) ?_
    refine lv_iconst (v := 0) hx hb d_Mo_factor_10 (by decide) ?_
    refine lv_aload_n hx hb d_Mo_factor_11 rfl (lv_at hl 0 rfl) ?_
    refine nm_get hx hb hg hown hK hP 5 (by decide) (by decide) (hg _ mw_895) d_Mo_factor_12 ?_
    obtain ⟨hi, hk⟩ := hk
    have hFc := nm_free hD hS hA
    refine va_calli (va_runV (As := [.int 0, .int 0, .int (x.1 5)]) (rest := []) ⟨hx, hb, hml, hown, hts⟩ (t_emit l G _ mo ad x 0 0 (x.1 5) hi) (cwV 3 hts (nn_gV mw_1060 mw_1057 mw_1059 mw_51 mw_94) rfl rfl rfl (by decide +kernel) ⟨Nat.le_of_ble_eq_true rfl, Nat.le_of_ble_eq_true rfl⟩) (nn_preV (va_recv hK hP rfl (q0 := 0) rfl) hP hD hK hN) rfl rfl hl.1 rfl (lv_room (Nat.le_of_ble_eq_true rfl)) d_Mo_factor_15 ⟨Nat.le_of_ble_eq_true rfl, Nat.le_of_ble_eq_true rfl⟩) hS (fun q _ h => hFc q h) hFc (fun r16 u t H locs ht hvm hw hB hz1 hk1 hS => ?_)
    subst hw
    obtain ⟨hP1, hD1⟩ := hB
    rw [ht] at hP1
    have hP := hP1
    have hD := hD1.weaken (fun _ _ _ h => hFc _ h)
    refine lv_istore_n (lv' := [(1, .int ((m_emit x 0 0 (x.1 5)).2)), (0, .ref mo)]) hx hb d_Mo_factor_18 rfl hl (by decide) rfl (fun ls hl => ?_)
    refine lv_aload_n hx hb d_Mo_factor_19 rfl (lv_at hl 1 rfl) ?_
    obtain ⟨hi, hk⟩ := hk
    have hFc := nm_free hD hS hA
    refine va_callv (va_runV (As := []) (rest := []) ⟨hx, hb, hml, hown, hts⟩ (t_goOn l G _ mo ad ((m_emit x 0 0 (x.1 5)).1) hi) (cwV 0 hts (nn_gV mw_1068 mw_1065 mw_1067 mw_53 mw_94) rfl rfl rfl (by decide +kernel) ⟨Nat.le_of_ble_eq_true rfl, Nat.le_of_ble_eq_true rfl⟩) (nn_preV (va_recv hK hP rfl (q0 := 0) rfl) hP hD hK hN) rfl rfl hl.1 rfl (lv_room (Nat.le_of_ble_eq_true rfl)) d_Mo_factor_20 ⟨Nat.le_of_ble_eq_true rfl, Nat.le_of_ble_eq_true rfl⟩) hS (fun q _ h => hFc q h) hFc (fun u t H locs ht hvm hw hB hz1 hk1 hS => ?_)
    obtain ⟨hP1, hD1⟩ := hB
    rw [ht] at hP1
    have hP := hP1
    have hD := hD1.weaken (fun _ _ _ h => hFc _ h)
    refine lv_goto (tgt := 211) hx hb d_Mo_factor_23 rfl ?_
    have hR : m_factor x = m_goOn ((m_emit x 0 0 (x.1 5)).1) := by rw [m_factor]; rw [if_pos hc5]
    refine nm_W1 hR ?_
    exact W.vret hx hb hr (fun t ht hW => ⟨⟨(), rfl, trivial, ⟨by rw [ht]; exact hP, hD⟩⟩, hS.F ht⟩) hS.2.2 d_Mo_factor_211

theorem d_Mo_close_0 : decode b_Mo_close 0 = .ok (.aload_n 0, 1) := by decide +kernel
theorem d_Mo_close_1 : decode b_Mo_close 1 = .ok (.iload_n 1, 1) := by decide +kernel
theorem d_Mo_close_2 : decode b_Mo_close 2 = .ok (.invokevirtual 149, 3) := by decide +kernel
theorem d_Mo_close_5 : decode b_Mo_close 5 = .ok (.aload_n 0, 1) := by decide +kernel
theorem d_Mo_close_6 : decode b_Mo_close 6 = .ok (.dup, 1) := by decide +kernel
theorem d_Mo_close_7 : decode b_Mo_close 7 = .ok (.getfield 139, 3) := by decide +kernel
theorem d_Mo_close_10 : decode b_Mo_close 10 = .ok (.iconst 1, 1) := by decide +kernel
theorem d_Mo_close_11 : decode b_Mo_close 11 = .ok (.isub, 1) := by decide +kernel
theorem d_Mo_close_12 : decode b_Mo_close 12 = .ok (.putfield 139, 3) := by decide +kernel
theorem d_Mo_close_15 : decode b_Mo_close 15 = .ok (.return_, 1) := by decide +kernel

def m_close (x : nM) (a1 : Int32) : nM := (nm_f (m_expect x a1) 24 (((m_expect x a1).1 24) - 1))
def o_close (x : nM) (a1 : Int32) : Prop := o_expect x a1 ∧ True
set_option maxHeartbeats 4000000 in
set_option maxRecDepth 100000 in
theorem t_close (l : Launch) (G : nn_G) (sz : Nat) (mo : Nat) (ad : Nat → Nat) (x : nM) (a1 : Int32) (hk : o_close x a1) : Met l y_Mo_close w_Mo_close ({ frames := 4, cells := 0, slots := 0, locals := 85 }) (nn_P G [.ref mo, .int a1] (nm_W G mo ad x) sz) (nm_Qv G mo ad (m_close x a1) (va_A (nm_W G mo ad x) sz)) 0 0 (va_A (nm_W G mo ad x) sz) := by
  refine Met.ofW (cc := b_Mo_close) (maxL := 2) (ret := none) (by decide) rfl ?_
  intro p e s m args below meth c s₁ B hml hv
  obtain ⟨rfl, hsz, hP, hK, hD0, hN⟩ := hv
  have hx := B.exec
  have hb := B.bytes
  have hr := B.returns
  have hts := atoms_spec (ws := w_Mo_close) B.pre
  have hg : ∀ w ∈ nn_gw, w.before _ s = true := fun w h => hts w (List.mem_cons_of_mem _ h)
  have hown : s.vm.findClass R_Mo = some m.cls := findClass_of_methodNamed B.named
  subst hsz
  have hD := hD0.self (sz := s.heap.size)
  generalize hAe : va_A (nm_W G mo ad x) s.heap.size = A at hD ⊢
  have hA : ∀ q : Nat, s.heap.size ≤ q → A q := fun q h => by rw [← hAe]; exact Or.inr h
  clear hAe
  have hS : va_S A s.heap s.heap [] := va_S.rf
  have hP : va_P G.1 nn_cls (nm_W G mo ad x) s.heap := hP
  have hl := lv_entry ([.ref mo, .int a1]) (n := 2) (Nat.le_of_ble_eq_true rfl)
  rw [lg_entry_eq]
  generalize (lg_sl ([.ref mo, .int a1]) ++ List.replicate (2 - (lg_sl ([.ref mo, .int a1])).length) Slot.unset).toArray = ls at hl ⊢
  have hl : lv_has ls 2 [(0, .ref mo), (1, .int a1)] := hl
  unfold o_close at hk
  refine lv_aload_n hx hb d_Mo_close_0 rfl (lv_at hl 0 rfl) ?_
  refine lv_iload_n hx hb d_Mo_close_1 rfl (lv_at hl 1 rfl) ?_
  obtain ⟨hi, hk⟩ := hk
  have hFc := nm_free hD hS hA
  refine va_callv (va_runV (As := [.int a1]) (rest := []) ⟨hx, hb, hml, hown, hts⟩ (t_expect l G _ mo ad x a1 hi) (cwV 1 hts (nn_gV mw_1084 mw_1081 mw_1083 mw_57 mw_94) rfl rfl rfl (by decide +kernel) ⟨Nat.le_of_ble_eq_true rfl, Nat.le_of_ble_eq_true rfl⟩) (nn_preV (va_recv hK hP rfl (q0 := 0) rfl) hP hD hK hN) rfl rfl hl.1 rfl (lv_room (Nat.le_of_ble_eq_true rfl)) d_Mo_close_2 ⟨Nat.le_of_ble_eq_true rfl, Nat.le_of_ble_eq_true rfl⟩) hS (fun q _ h => hFc q h) hFc (fun u t H locs ht hvm hw hB hz1 hk1 hS => ?_)
  obtain ⟨hP1, hD1⟩ := hB
  rw [ht] at hP1
  have hP := hP1
  have hD := hD1.weaken (fun _ _ _ h => hFc _ h)
  refine lv_aload_n hx hb d_Mo_close_5 rfl (lv_at hl 0 rfl) ?_
  refine lv_dup hx hb d_Mo_close_6 rfl ?_
  refine nm_get hx hb hg hown hK hP 24 (by decide) (by decide) (hg _ mw_914) d_Mo_close_7 ?_
  refine lv_iconst (v := 1) hx hb d_Mo_close_10 (by decide) ?_
  refine lv_isub hx hb d_Mo_close_11 ?_
  refine nm_put hx hb hg hown hK hP hD hS 24 (by decide) (by decide) (by decide) (hg _ mw_914) d_Mo_close_12 (fun H locs hP hD hS => ?_)
  have hR : m_close x a1 = nm_f (m_expect x a1) 24 (((m_expect x a1).1 24) - 1) := by rw [m_close]
  refine nm_W1 hR ?_
  exact W.vret hx hb hr (fun t ht hW => ⟨⟨(), rfl, trivial, ⟨by rw [ht]; exact hP, hD⟩⟩, hS.F ht⟩) hS.2.2 d_Mo_close_15

theorem mw_72 : (.selects R_Mo y_Mo_close y_Mo_close : Cond) ∈ nn_gw := nn_at 72 (by decide +kernel) (by decide +kernel)
theorem mw_1141 : (.methodLink R_Mo 188 y_Mo_close : Cond) ∈ nn_gw := nn_at 1141 (by decide +kernel) (by decide +kernel)
theorem mw_1143 : (.instanceMethod y_Mo_close : Cond) ∈ nn_gw := nn_at 1143 (by decide +kernel) (by decide +kernel)
set_option maxRecDepth 100000 in
theorem mw_1144 : (.code y_Mo_close b_Mo_close 2 none : Cond) ∈ nn_gw := nn_at 1144 (by rfl) (by decide +kernel)
theorem d_Mo_argument_0 : decode b_Mo_argument 0 = .ok (.aload_n 0, 1) := by decide +kernel
theorem d_Mo_argument_1 : decode b_Mo_argument 1 = .ok (.getfield 88, 3) := by decide +kernel
theorem d_Mo_argument_4 : decode b_Mo_argument 4 = .ok (.bipush 44, 2) := by decide +kernel
theorem d_Mo_argument_6 : decode b_Mo_argument 6 = .ok (.if_icmp .ne 26, 3) := by decide +kernel
theorem d_Mo_argument_9 : decode b_Mo_argument 9 = .ok (.aload_n 0, 1) := by decide +kernel
theorem d_Mo_argument_10 : decode b_Mo_argument 10 = .ok (.invokevirtual 117, 3) := by decide +kernel
theorem d_Mo_argument_13 : decode b_Mo_argument 13 = .ok (.aload_n 0, 1) := by decide +kernel
theorem d_Mo_argument_14 : decode b_Mo_argument 14 = .ok (.bipush 22, 2) := by decide +kernel
theorem d_Mo_argument_16 : decode b_Mo_argument 16 = .ok (.iload_n 1, 1) := by decide +kernel
theorem d_Mo_argument_17 : decode b_Mo_argument 17 = .ok (.iload_n 2, 1) := by decide +kernel
theorem d_Mo_argument_18 : decode b_Mo_argument 18 = .ok (.iconst 1, 1) := by decide +kernel
theorem d_Mo_argument_19 : decode b_Mo_argument 19 = .ok (.iadd, 1) := by decide +kernel
theorem d_Mo_argument_20 : decode b_Mo_argument 20 = .ok (.invokevirtual 162, 3) := by decide +kernel
theorem d_Mo_argument_23 : decode b_Mo_argument 23 = .ok (.aload_n 0, 1) := by decide +kernel
theorem d_Mo_argument_24 : decode b_Mo_argument 24 = .ok (.bipush 14, 2) := by decide +kernel
theorem d_Mo_argument_26 : decode b_Mo_argument 26 = .ok (.iconst 0, 1) := by decide +kernel
theorem d_Mo_argument_27 : decode b_Mo_argument 27 = .ok (.iconst 0, 1) := by decide +kernel
theorem d_Mo_argument_28 : decode b_Mo_argument 28 = .ok (.invokevirtual 162, 3) := by decide +kernel
theorem d_Mo_argument_31 : decode b_Mo_argument 31 = .ok (.return_, 1) := by decide +kernel
theorem d_Mo_argument_32 : decode b_Mo_argument 32 = .ok (.aload_n 0, 1) := by decide +kernel
theorem d_Mo_argument_33 : decode b_Mo_argument 33 = .ok (.getfield 88, 3) := by decide +kernel
theorem d_Mo_argument_36 : decode b_Mo_argument 36 = .ok (.bipush 41, 2) := by decide +kernel
theorem d_Mo_argument_38 : decode b_Mo_argument 38 = .ok (.if_icmp .ne 22, 3) := by decide +kernel
theorem d_Mo_argument_41 : decode b_Mo_argument 41 = .ok (.iload_n 2, 1) := by decide +kernel
theorem d_Mo_argument_42 : decode b_Mo_argument 42 = .ok (.aload_n 0, 1) := by decide +kernel
theorem d_Mo_argument_43 : decode b_Mo_argument 43 = .ok (.getfield 42, 3) := by decide +kernel
theorem d_Mo_argument_46 : decode b_Mo_argument 46 = .ok (.iload_n 1, 1) := by decide +kernel
theorem d_Mo_argument_47 : decode b_Mo_argument 47 = .ok (.iaload, 1) := by decide +kernel
theorem d_Mo_argument_48 : decode b_Mo_argument 48 = .ok (.if_icmp .eq 12, 3) := by decide +kernel
theorem d_Mo_argument_51 : decode b_Mo_argument 51 = .ok (.aload_n 0, 1) := by decide +kernel
theorem d_Mo_argument_52 : decode b_Mo_argument 52 = .ok (.iconst 5, 1) := by decide +kernel
theorem d_Mo_argument_53 : decode b_Mo_argument 53 = .ok (.aload_n 0, 1) := by decide +kernel
theorem d_Mo_argument_54 : decode b_Mo_argument 54 = .ok (.getfield 78, 3) := by decide +kernel
theorem d_Mo_argument_57 : decode b_Mo_argument 57 = .ok (.invokevirtual 120, 3) := by decide +kernel
theorem d_Mo_argument_60 : decode b_Mo_argument 60 = .ok (.aload_n 0, 1) := by decide +kernel
theorem d_Mo_argument_61 : decode b_Mo_argument 61 = .ok (.bipush 41, 2) := by decide +kernel
theorem d_Mo_argument_63 : decode b_Mo_argument 63 = .ok (.invokevirtual 188, 3) := by decide +kernel
theorem d_Mo_argument_66 : decode b_Mo_argument 66 = .ok (.aload_n 0, 1) := by decide +kernel
theorem d_Mo_argument_67 : decode b_Mo_argument 67 = .ok (.iconst 5, 1) := by decide +kernel
theorem d_Mo_argument_68 : decode b_Mo_argument 68 = .ok (.aload_n 0, 1) := by decide +kernel
theorem d_Mo_argument_69 : decode b_Mo_argument 69 = .ok (.iload_n 1, 1) := by decide +kernel
theorem d_Mo_argument_70 : decode b_Mo_argument 70 = .ok (.invokevirtual 175, 3) := by decide +kernel
theorem d_Mo_argument_73 : decode b_Mo_argument 73 = .ok (.aload_n 0, 1) := by decide +kernel
theorem d_Mo_argument_74 : decode b_Mo_argument 74 = .ok (.getfield 39, 3) := by decide +kernel
theorem d_Mo_argument_77 : decode b_Mo_argument 77 = .ok (.iload_n 1, 1) := by decide +kernel
theorem d_Mo_argument_78 : decode b_Mo_argument 78 = .ok (.iaload, 1) := by decide +kernel
theorem d_Mo_argument_79 : decode b_Mo_argument 79 = .ok (.invokevirtual 152, 3) := by decide +kernel
theorem d_Mo_argument_82 : decode b_Mo_argument 82 = .ok (.istore_n 3, 1) := by decide +kernel
theorem d_Mo_argument_83 : decode b_Mo_argument 83 = .ok (.return_, 1) := by decide +kernel

def k_argument_60 (x : nM) (v1 : Int32) : nM := ((m_emit (m_close x 41) 5 (m_links (m_close x 41) v1) (nm_g (m_close x 41) 19 v1)).1)
def p_argument_60 (x : nM) (v1 : Int32) : Prop := o_close x 41 ∧ o_links (m_close x 41) v1 ∧ vp_in v1 100 ∧ o_emit (m_close x 41) 5 (m_links (m_close x 41) v1) (nm_g (m_close x 41) 19 v1) ∧ True
def m_argument (x : nM) (a1 : Int32) (a2 : Int32) : nM := (if x.1 3 = 44 then (m_push (m_push (m_goOn x) 22 a1 (a2 + 1)) 14 0 0) else (if x.1 3 = 41 then (if a2 = nm_g x 20 a1 then k_argument_60 x a1 else k_argument_60 (m_fail x 5 (x.1 4)) a1) else k_argument_60 x a1))
def o_argument (x : nM) (a1 : Int32) (a2 : Int32) : Prop := ((x.1 3 = 44 → o_goOn x ∧ o_push (m_goOn x) 22 a1 (a2 + 1) ∧ o_push (m_push (m_goOn x) 22 a1 (a2 + 1)) 14 0 0 ∧ True) ∧ (¬ (x.1 3 = 44) → ((x.1 3 = 41 → vp_in a1 100 ∧ ((a2 = nm_g x 20 a1 → p_argument_60 x a1) ∧ (¬ (a2 = nm_g x 20 a1) → p_argument_60 (m_fail x 5 (x.1 4)) a1))) ∧ (¬ (x.1 3 = 41) → p_argument_60 x a1))))
set_option maxHeartbeats 4000000 in
set_option maxRecDepth 100000 in
theorem t_argument (l : Launch) (G : nn_G) (sz : Nat) (mo : Nat) (ad : Nat → Nat) (x : nM) (a1 : Int32) (a2 : Int32) (hk : o_argument x a1 a2) : Met l y_Mo_argument w_Mo_argument ({ frames := 5, cells := 0, slots := 0, locals := 106 }) (nn_P G [.ref mo, .int a1, .int a2] (nm_W G mo ad x) sz) (nm_Qv G mo ad (m_argument x a1 a2) (va_A (nm_W G mo ad x) sz)) 0 0 (va_A (nm_W G mo ad x) sz) := by
  refine Met.ofW (cc := b_Mo_argument) (maxL := 4) (ret := none) (by decide) rfl ?_
  intro p e s m args below meth c s₁ B hml hv
  obtain ⟨rfl, hsz, hP, hK, hD0, hN⟩ := hv
  have hx := B.exec
  have hb := B.bytes
  have hr := B.returns
  have hts := atoms_spec (ws := w_Mo_argument) B.pre
  have hg : ∀ w ∈ nn_gw, w.before _ s = true := fun w h => hts w (List.mem_cons_of_mem _ h)
  have hown : s.vm.findClass R_Mo = some m.cls := findClass_of_methodNamed B.named
  subst hsz
  have hD := hD0.self (sz := s.heap.size)
  generalize hAe : va_A (nm_W G mo ad x) s.heap.size = A at hD ⊢
  have hA : ∀ q : Nat, s.heap.size ≤ q → A q := fun q h => by rw [← hAe]; exact Or.inr h
  clear hAe
  have hS : va_S A s.heap s.heap [] := va_S.rf
  have hP : va_P G.1 nn_cls (nm_W G mo ad x) s.heap := hP
  have hl := lv_entry ([.ref mo, .int a1, .int a2]) (n := 4) (Nat.le_of_ble_eq_true rfl)
  rw [lg_entry_eq]
  generalize (lg_sl ([.ref mo, .int a1, .int a2]) ++ List.replicate (4 - (lg_sl ([.ref mo, .int a1, .int a2])).length) Slot.unset).toArray = ls at hl ⊢
  have hl : lv_has ls 4 [(0, .ref mo), (1, .int a1), (2, .int a2)] := hl
  have J60 : ∀ (x : nM) (v1 : Int32) (ls : Array Slot) (H : Heap) (locs : List Loc), p_argument_60 x v1 → lv_has ls 4 [(0, .ref mo), (1, .int v1)] → va_P G.1 nn_cls (nm_W G mo ad x) H → va_D A (nm_W G mo ad x) → va_S A s.heap H locs → W p l e (headSpec w_Mo_argument ({ frames := 5, cells := 0, slots := 0, locals := 106 })).room s m [.ref mo, .int a1, .int a2].toArray below meth c H locs 0 0 (MQ below (nm_Qv G mo ad (k_argument_60 x v1) A) [.ref mo, .int a1, .int a2].toArray s 0 0 A) (F0 m 60 ls []) := by
    intro x v1 ls H locs hk hl hP hD hS
    unfold p_argument_60 at hk
    refine lv_aload_n hx hb d_Mo_argument_60 rfl (lv_at hl 0 rfl) ?_
    refine lv_bipush (v := 41) hx hb d_Mo_argument_61 (by decide) ?_
    obtain ⟨hi, hk⟩ := hk
    have hFc := nm_free hD hS hA
    refine va_callv (va_runV (As := [.int 41]) (rest := []) ⟨hx, hb, hml, hown, hts⟩ (t_close l G _ mo ad x 41 hi) (cwV 1 hts (nn_gV mw_1144 mw_1141 mw_1143 mw_72 mw_94) rfl rfl rfl (by decide +kernel) ⟨Nat.le_of_ble_eq_true rfl, Nat.le_of_ble_eq_true rfl⟩) (nn_preV (va_recv hK hP rfl (q0 := 0) rfl) hP hD hK hN) rfl rfl hl.1 rfl (lv_room (Nat.le_of_ble_eq_true rfl)) d_Mo_argument_63 ⟨Nat.le_of_ble_eq_true rfl, Nat.le_of_ble_eq_true rfl⟩) hS (fun q _ h => hFc q h) hFc (fun u t H locs ht hvm hw hB hz1 hk1 hS => ?_)
    obtain ⟨hP1, hD1⟩ := hB
    rw [ht] at hP1
    have hP := hP1
    have hD := hD1.weaken (fun _ _ _ h => hFc _ h)
    refine lv_aload_n hx hb d_Mo_argument_66 rfl (lv_at hl 0 rfl) ?_
    refine lv_iconst (v := 5) hx hb d_Mo_argument_67 (by decide) ?_
    refine lv_aload_n hx hb d_Mo_argument_68 rfl (lv_at hl 0 rfl) ?_
    refine lv_iload_n hx hb d_Mo_argument_69 rfl (lv_at hl 1 rfl) ?_
    obtain ⟨hi, hk⟩ := hk
    refine vp_callSi (va_Run.run (va_runV (As := [.int v1]) (rest := [.int 5, .ref mo]) ⟨hx, hb, hml, hown, hts⟩ (t_links l G _ mo ad (m_close x 41) v1 hi) (cwV 1 hts (nn_gV mw_1124 mw_1121 mw_1123 mw_67 mw_94) rfl rfl rfl (by decide +kernel) ⟨Nat.le_of_ble_eq_true rfl, Nat.le_of_ble_eq_true rfl⟩) (nn_preV (va_recv hK hP rfl (q0 := 0) rfl) hP hD hK hN) rfl rfl hl.1 rfl (lv_room (Nat.le_of_ble_eq_true rfl)) d_Mo_argument_70 ⟨Nat.le_of_ble_eq_true rfl, Nat.le_of_ble_eq_true rfl⟩)) (fun r2 er2 => ?_)
    subst er2
    refine lv_aload_n hx hb d_Mo_argument_73 rfl (lv_at hl 0 rfl) ?_
    refine nm_getA hx hb hg hown hK hP 19 (by decide) (by decide) (hg _ mw_909) d_Mo_argument_74 ?_
    refine lv_iload_n hx hb d_Mo_argument_77 rfl (lv_at hl 1 rfl) ?_
    obtain ⟨hi, hk⟩ := hk
    refine nm_ld hx hb hK hP 19 7 rfl (by decide) hi d_Mo_argument_78 ?_
    obtain ⟨hi, hk⟩ := hk
    have hFc := nm_free hD hS hA
    refine va_calli (va_runV (As := [.int 5, .int (m_links (m_close x 41) v1), .int (nm_g (m_close x 41) 19 v1)]) (rest := []) ⟨hx, hb, hml, hown, hts⟩ (t_emit l G _ mo ad (m_close x 41) 5 (m_links (m_close x 41) v1) (nm_g (m_close x 41) 19 v1) hi) (cwV 3 hts (nn_gV mw_1060 mw_1057 mw_1059 mw_51 mw_94) rfl rfl rfl (by decide +kernel) ⟨Nat.le_of_ble_eq_true rfl, Nat.le_of_ble_eq_true rfl⟩) (nn_preV (va_recv hK hP rfl (q0 := 0) rfl) hP hD hK hN) rfl rfl hl.1 rfl (lv_room (Nat.le_of_ble_eq_true rfl)) d_Mo_argument_79 ⟨Nat.le_of_ble_eq_true rfl, Nat.le_of_ble_eq_true rfl⟩) hS (fun q _ h => hFc q h) hFc (fun r3 u t H locs ht hvm hw hB hz1 hk1 hS => ?_)
    subst hw
    obtain ⟨hP1, hD1⟩ := hB
    rw [ht] at hP1
    have hP := hP1
    have hD := hD1.weaken (fun _ _ _ h => hFc _ h)
    refine lv_istore_n (lv' := [(3, .int ((m_emit (m_close x 41) 5 (m_links (m_close x 41) v1) (nm_g (m_close x 41) 19 v1)).2)), (0, .ref mo), (1, .int v1)]) hx hb d_Mo_argument_82 rfl hl (by decide) rfl (fun ls hl => ?_)
    have hR : k_argument_60 x v1 = (m_emit (m_close x 41) 5 (m_links (m_close x 41) v1) (nm_g (m_close x 41) 19 v1)).1 := by rw [k_argument_60]
    refine nm_W1 hR ?_
    exact W.vret hx hb hr (fun t ht hW => ⟨⟨(), rfl, trivial, ⟨by rw [ht]; exact hP, hD⟩⟩, hS.F ht⟩) hS.2.2 d_Mo_argument_83
  unfold o_argument at hk
  refine lv_aload_n hx hb d_Mo_argument_0 rfl (lv_at hl 0 rfl) ?_
  refine nm_get hx hb hg hown hK hP 3 (by decide) (by decide) (hg _ mw_893) d_Mo_argument_1 ?_
  refine lv_bipush (v := 44) hx hb d_Mo_argument_4 (by decide) ?_
  refine lv_icmp_ne (tgt := 32) hx hb d_Mo_argument_6 rfl (fun hc6 => ?_) (fun hc6 => ?_)
  · skip
    have hk := hk.2 hc6
    refine lv_aload_n hx hb d_Mo_argument_32 rfl (lv_at hl 0 rfl) ?_
    refine nm_get hx hb hg hown hK hP 3 (by decide) (by decide) (hg _ mw_893) d_Mo_argument_33 ?_
    refine lv_bipush (v := 41) hx hb d_Mo_argument_36 (by decide) ?_
    refine lv_icmp_ne (tgt := 60) hx hb d_Mo_argument_38 rfl (fun hc38 => ?_) (fun hc38 => ?_)
    · skip
      have hk := hk.2 hc38
      have hl := lv_sub (l' := [(0, .ref mo), (1, .int a1)]) hl [0, 1] rfl
      have hR : m_argument x a1 a2 = k_argument_60 x a1 := by rw [m_argument]; rw [if_neg hc6]; rw [if_neg hc38]
      exact nm_W1 hR (J60 x a1 ls _ _ hk hl hP hD hS)
    · skip
      have hk := hk.1 hc38
      refine lv_iload_n hx hb d_Mo_argument_41 rfl (lv_at hl 2 rfl) ?_
      refine lv_aload_n hx hb d_Mo_argument_42 rfl (lv_at hl 0 rfl) ?_
      refine nm_getA hx hb hg hown hK hP 20 (by decide) (by decide) (hg _ mw_910) d_Mo_argument_43 ?_
      refine lv_iload_n hx hb d_Mo_argument_46 rfl (lv_at hl 1 rfl) ?_
      obtain ⟨hi, hk⟩ := hk
      refine nm_ld hx hb hK hP 20 8 rfl (by decide) hi d_Mo_argument_47 ?_
      refine lv_icmp_eq (tgt := 60) hx hb d_Mo_argument_48 rfl (fun hc48 => ?_) (fun hc48 => ?_)
      · skip
        have hk := hk.1 hc48
        have hl := lv_sub (l' := [(0, .ref mo), (1, .int a1)]) hl [0, 1] rfl
        have hR : m_argument x a1 a2 = k_argument_60 x a1 := by rw [m_argument]; rw [if_neg hc6]; rw [if_pos hc38]; rw [if_pos hc48]
        exact nm_W1 hR (J60 x a1 ls _ _ hk hl hP hD hS)
      · skip
        have hk := hk.2 hc48
        refine lv_aload_n hx hb d_Mo_argument_51 rfl (lv_at hl 0 rfl) ?_
        refine lv_iconst (v := 5) hx hb d_Mo_argument_52 (by decide) ?_
        refine lv_aload_n hx hb d_Mo_argument_53 rfl (lv_at hl 0 rfl) ?_
        refine nm_get hx hb hg hown hK hP 4 (by decide) (by decide) (hg _ mw_894) d_Mo_argument_54 ?_
        have hFc := nm_free hD hS hA
        refine va_callv (va_runV (As := [.int 5, .int (x.1 4)]) (rest := []) ⟨hx, hb, hml, hown, hts⟩ (t_fail l G _ mo ad x 5 (x.1 4)) (cwV 2 hts (nn_gV mw_1080 mw_1077 mw_1079 mw_56 mw_94) rfl rfl rfl (by decide +kernel) ⟨Nat.le_of_ble_eq_true rfl, Nat.le_of_ble_eq_true rfl⟩) (nn_preV (va_recv hK hP rfl (q0 := 0) rfl) hP hD hK hN) rfl rfl hl.1 rfl (lv_room (Nat.le_of_ble_eq_true rfl)) d_Mo_argument_57 ⟨Nat.le_of_ble_eq_true rfl, Nat.le_of_ble_eq_true rfl⟩) hS (fun q _ h => hFc q h) hFc (fun u t H locs ht hvm hw hB hz1 hk1 hS => ?_)
        obtain ⟨hP1, hD1⟩ := hB
        rw [ht] at hP1
        have hP := hP1
        have hD := hD1.weaken (fun _ _ _ h => hFc _ h)
        have hl := lv_sub (l' := [(0, .ref mo), (1, .int a1)]) hl [0, 1] rfl
        have hR : m_argument x a1 a2 = k_argument_60 (m_fail x 5 (x.1 4)) a1 := by rw [m_argument]; rw [if_neg hc6]; rw [if_pos hc38]; rw [if_neg hc48]
        exact nm_W1 hR (J60 (m_fail x 5 (x.1 4)) a1 ls _ _ hk hl hP hD hS)
  · skip
    have hk := hk.1 hc6
    refine lv_aload_n hx hb d_Mo_argument_9 rfl (lv_at hl 0 rfl) ?_
    obtain ⟨hi, hk⟩ := hk
    have hFc := nm_free hD hS hA
    refine va_callv (va_runV (As := []) (rest := []) ⟨hx, hb, hml, hown, hts⟩ (t_goOn l G _ mo ad x hi) (cwV 0 hts (nn_gV mw_1068 mw_1065 mw_1067 mw_53 mw_94) rfl rfl rfl (by decide +kernel) ⟨Nat.le_of_ble_eq_true rfl, Nat.le_of_ble_eq_true rfl⟩) (nn_preV (va_recv hK hP rfl (q0 := 0) rfl) hP hD hK hN) rfl rfl hl.1 rfl (lv_room (Nat.le_of_ble_eq_true rfl)) d_Mo_argument_10 ⟨Nat.le_of_ble_eq_true rfl, Nat.le_of_ble_eq_true rfl⟩) hS (fun q _ h => hFc q h) hFc (fun u t H locs ht hvm hw hB hz1 hk1 hS => ?_)
    obtain ⟨hP1, hD1⟩ := hB
    rw [ht] at hP1
    have hP := hP1
    have hD := hD1.weaken (fun _ _ _ h => hFc _ h)
    refine lv_aload_n hx hb d_Mo_argument_13 rfl (lv_at hl 0 rfl) ?_
    refine lv_bipush (v := 22) hx hb d_Mo_argument_14 (by decide) ?_
    refine lv_iload_n hx hb d_Mo_argument_16 rfl (lv_at hl 1 rfl) ?_
    refine lv_iload_n hx hb d_Mo_argument_17 rfl (lv_at hl 2 rfl) ?_
    refine lv_iconst (v := 1) hx hb d_Mo_argument_18 (by decide) ?_
    refine lv_iadd hx hb d_Mo_argument_19 ?_
    obtain ⟨hi, hk⟩ := hk
    have hFc := nm_free hD hS hA
    refine va_callv (va_runV (As := [.int 22, .int a1, .int (a2 + 1)]) (rest := []) ⟨hx, hb, hml, hown, hts⟩ (t_push l G _ mo ad (m_goOn x) 22 a1 (a2 + 1) hi) (cwV 3 hts (nn_gV mw_1028 mw_1025 mw_1027 mw_46 mw_94) rfl rfl rfl (by decide +kernel) ⟨Nat.le_of_ble_eq_true rfl, Nat.le_of_ble_eq_true rfl⟩) (nn_preV (va_recv hK hP rfl (q0 := 0) rfl) hP hD hK hN) rfl rfl hl.1 rfl (lv_room (Nat.le_of_ble_eq_true rfl)) d_Mo_argument_20 ⟨Nat.le_of_ble_eq_true rfl, Nat.le_of_ble_eq_true rfl⟩) hS (fun q _ h => hFc q h) hFc (fun u t H locs ht hvm hw hB hz1 hk1 hS => ?_)
    obtain ⟨hP1, hD1⟩ := hB
    rw [ht] at hP1
    have hP := hP1
    have hD := hD1.weaken (fun _ _ _ h => hFc _ h)
    refine lv_aload_n hx hb d_Mo_argument_23 rfl (lv_at hl 0 rfl) ?_
    refine lv_bipush (v := 14) hx hb d_Mo_argument_24 (by decide) ?_
    refine lv_iconst (v := 0) hx hb d_Mo_argument_26 (by decide) ?_
    refine lv_iconst (v := 0) hx hb d_Mo_argument_27 (by decide) ?_
    obtain ⟨hi, hk⟩ := hk
    have hFc := nm_free hD hS hA
    refine va_callv (va_runV (As := [.int 14, .int 0, .int 0]) (rest := []) ⟨hx, hb, hml, hown, hts⟩ (t_push l G _ mo ad (m_push (m_goOn x) 22 a1 (a2 + 1)) 14 0 0 hi) (cwV 3 hts (nn_gV mw_1028 mw_1025 mw_1027 mw_46 mw_94) rfl rfl rfl (by decide +kernel) ⟨Nat.le_of_ble_eq_true rfl, Nat.le_of_ble_eq_true rfl⟩) (nn_preV (va_recv hK hP rfl (q0 := 0) rfl) hP hD hK hN) rfl rfl hl.1 rfl (lv_room (Nat.le_of_ble_eq_true rfl)) d_Mo_argument_28 ⟨Nat.le_of_ble_eq_true rfl, Nat.le_of_ble_eq_true rfl⟩) hS (fun q _ h => hFc q h) hFc (fun u t H locs ht hvm hw hB hz1 hk1 hS => ?_)
    obtain ⟨hP1, hD1⟩ := hB
    rw [ht] at hP1
    have hP := hP1
    have hD := hD1.weaken (fun _ _ _ h => hFc _ h)
    have hR : m_argument x a1 a2 = m_push (m_push (m_goOn x) 22 a1 (a2 + 1)) 14 0 0 := by rw [m_argument]; rw [if_pos hc6]
    refine nm_W1 hR ?_
    exact W.vret hx hb hr (fun t ht hW => ⟨⟨(), rfl, trivial, ⟨by rw [ht]; exact hP, hD⟩⟩, hS.F ht⟩) hS.2.2 d_Mo_argument_31

theorem d_Mo_element_0 : decode b_Mo_element 0 = .ok (.aload_n 0, 1) := by decide +kernel
theorem d_Mo_element_1 : decode b_Mo_element 1 = .ok (.bipush 93, 2) := by decide +kernel
theorem d_Mo_element_3 : decode b_Mo_element 3 = .ok (.invokevirtual 188, 3) := by decide +kernel
theorem d_Mo_element_6 : decode b_Mo_element 6 = .ok (.aload_n 0, 1) := by decide +kernel
theorem d_Mo_element_7 : decode b_Mo_element 7 = .ok (.bipush 11, 2) := by decide +kernel
theorem d_Mo_element_9 : decode b_Mo_element 9 = .ok (.iconst 0, 1) := by decide +kernel
theorem d_Mo_element_10 : decode b_Mo_element 10 = .ok (.aload_n 0, 1) := by decide +kernel
theorem d_Mo_element_11 : decode b_Mo_element 11 = .ok (.getfield 42, 3) := by decide +kernel
theorem d_Mo_element_14 : decode b_Mo_element 14 = .ok (.iload_n 1, 1) := by decide +kernel
theorem d_Mo_element_15 : decode b_Mo_element 15 = .ok (.iaload, 1) := by decide +kernel
theorem d_Mo_element_16 : decode b_Mo_element 16 = .ok (.invokevirtual 152, 3) := by decide +kernel
theorem d_Mo_element_19 : decode b_Mo_element 19 = .ok (.istore_n 3, 1) := by decide +kernel
theorem d_Mo_element_20 : decode b_Mo_element 20 = .ok (.iload_n 2, 1) := by decide +kernel
theorem d_Mo_element_21 : decode b_Mo_element 21 = .ok (.ifCond .eq 40, 3) := by decide +kernel
theorem d_Mo_element_24 : decode b_Mo_element 24 = .ok (.aload_n 0, 1) := by decide +kernel
theorem d_Mo_element_25 : decode b_Mo_element 25 = .ok (.bipush 127, 2) := by decide +kernel
theorem d_Mo_element_27 : decode b_Mo_element 27 = .ok (.invokevirtual 149, 3) := by decide +kernel
theorem d_Mo_element_30 : decode b_Mo_element 30 = .ok (.aload_n 0, 1) := by decide +kernel
theorem d_Mo_element_31 : decode b_Mo_element 31 = .ok (.bipush 23, 2) := by decide +kernel
theorem d_Mo_element_33 : decode b_Mo_element 33 = .ok (.bipush 64, 2) := by decide +kernel
theorem d_Mo_element_35 : decode b_Mo_element 35 = .ok (.aload_n 0, 1) := by decide +kernel
theorem d_Mo_element_36 : decode b_Mo_element 36 = .ok (.iload_n 1, 1) := by decide +kernel
theorem d_Mo_element_37 : decode b_Mo_element 37 = .ok (.invokevirtual 175, 3) := by decide +kernel
theorem d_Mo_element_40 : decode b_Mo_element 40 = .ok (.iadd, 1) := by decide +kernel
theorem d_Mo_element_41 : decode b_Mo_element 41 = .ok (.aload_n 0, 1) := by decide +kernel
theorem d_Mo_element_42 : decode b_Mo_element 42 = .ok (.getfield 39, 3) := by decide +kernel
theorem d_Mo_element_45 : decode b_Mo_element 45 = .ok (.iload_n 1, 1) := by decide +kernel
theorem d_Mo_element_46 : decode b_Mo_element 46 = .ok (.iaload, 1) := by decide +kernel
theorem d_Mo_element_47 : decode b_Mo_element 47 = .ok (.invokevirtual 162, 3) := by decide +kernel
theorem d_Mo_element_50 : decode b_Mo_element 50 = .ok (.aload_n 0, 1) := by decide +kernel
theorem d_Mo_element_51 : decode b_Mo_element 51 = .ok (.bipush 14, 2) := by decide +kernel
theorem d_Mo_element_53 : decode b_Mo_element 53 = .ok (.iconst 0, 1) := by decide +kernel
theorem d_Mo_element_54 : decode b_Mo_element 54 = .ok (.iconst 0, 1) := by decide +kernel
theorem d_Mo_element_55 : decode b_Mo_element 55 = .ok (.invokevirtual 162, 3) := by decide +kernel
theorem d_Mo_element_58 : decode b_Mo_element 58 = .ok (.goto 21, 3) := by decide +kernel
theorem d_Mo_element_61 : decode b_Mo_element 61 = .ok (.aload_n 0, 1) := by decide +kernel
theorem d_Mo_element_62 : decode b_Mo_element 62 = .ok (.iconst 3, 1) := by decide +kernel
theorem d_Mo_element_63 : decode b_Mo_element 63 = .ok (.aload_n 0, 1) := by decide +kernel
theorem d_Mo_element_64 : decode b_Mo_element 64 = .ok (.iload_n 1, 1) := by decide +kernel
theorem d_Mo_element_65 : decode b_Mo_element 65 = .ok (.invokevirtual 175, 3) := by decide +kernel
theorem d_Mo_element_68 : decode b_Mo_element 68 = .ok (.aload_n 0, 1) := by decide +kernel
theorem d_Mo_element_69 : decode b_Mo_element 69 = .ok (.getfield 39, 3) := by decide +kernel
theorem d_Mo_element_72 : decode b_Mo_element 72 = .ok (.iload_n 1, 1) := by decide +kernel
theorem d_Mo_element_73 : decode b_Mo_element 73 = .ok (.iaload, 1) := by decide +kernel
theorem d_Mo_element_74 : decode b_Mo_element 74 = .ok (.invokevirtual 152, 3) := by decide +kernel
theorem d_Mo_element_77 : decode b_Mo_element 77 = .ok (.istore 4, 2) := by decide +kernel
theorem d_Mo_element_79 : decode b_Mo_element 79 = .ok (.return_, 1) := by decide +kernel

def m_element (x : nM) (a1 : Int32) (a2 : Int32) : nM := (if a2 = 0 then ((m_emit ((m_emit (m_close x 93) 11 0 (nm_g (m_close x 93) 20 a1)).1) 3 (m_links ((m_emit (m_close x 93) 11 0 (nm_g (m_close x 93) 20 a1)).1) a1) (nm_g ((m_emit (m_close x 93) 11 0 (nm_g (m_close x 93) 20 a1)).1) 19 a1)).1) else (m_push (m_push (m_expect ((m_emit (m_close x 93) 11 0 (nm_g (m_close x 93) 20 a1)).1) 127) 23 (64 + (m_links (m_expect ((m_emit (m_close x 93) 11 0 (nm_g (m_close x 93) 20 a1)).1) 127) a1)) (nm_g (m_expect ((m_emit (m_close x 93) 11 0 (nm_g (m_close x 93) 20 a1)).1) 127) 19 a1)) 14 0 0))
def o_element (x : nM) (a1 : Int32) (a2 : Int32) : Prop := o_close x 93 ∧ vp_in a1 100 ∧ o_emit (m_close x 93) 11 0 (nm_g (m_close x 93) 20 a1) ∧ ((a2 = 0 → o_links ((m_emit (m_close x 93) 11 0 (nm_g (m_close x 93) 20 a1)).1) a1 ∧ vp_in a1 100 ∧ o_emit ((m_emit (m_close x 93) 11 0 (nm_g (m_close x 93) 20 a1)).1) 3 (m_links ((m_emit (m_close x 93) 11 0 (nm_g (m_close x 93) 20 a1)).1) a1) (nm_g ((m_emit (m_close x 93) 11 0 (nm_g (m_close x 93) 20 a1)).1) 19 a1) ∧ True) ∧ (¬ (a2 = 0) → o_expect ((m_emit (m_close x 93) 11 0 (nm_g (m_close x 93) 20 a1)).1) 127 ∧ o_links (m_expect ((m_emit (m_close x 93) 11 0 (nm_g (m_close x 93) 20 a1)).1) 127) a1 ∧ vp_in a1 100 ∧ o_push (m_expect ((m_emit (m_close x 93) 11 0 (nm_g (m_close x 93) 20 a1)).1) 127) 23 (64 + (m_links (m_expect ((m_emit (m_close x 93) 11 0 (nm_g (m_close x 93) 20 a1)).1) 127) a1)) (nm_g (m_expect ((m_emit (m_close x 93) 11 0 (nm_g (m_close x 93) 20 a1)).1) 127) 19 a1) ∧ o_push (m_push (m_expect ((m_emit (m_close x 93) 11 0 (nm_g (m_close x 93) 20 a1)).1) 127) 23 (64 + (m_links (m_expect ((m_emit (m_close x 93) 11 0 (nm_g (m_close x 93) 20 a1)).1) 127) a1)) (nm_g (m_expect ((m_emit (m_close x 93) 11 0 (nm_g (m_close x 93) 20 a1)).1) 127) 19 a1)) 14 0 0 ∧ True))
set_option maxHeartbeats 4000000 in
set_option maxRecDepth 100000 in
theorem t_element (l : Launch) (G : nn_G) (sz : Nat) (mo : Nat) (ad : Nat → Nat) (x : nM) (a1 : Int32) (a2 : Int32) (hk : o_element x a1 a2) : Met l y_Mo_element w_Mo_element ({ frames := 5, cells := 0, slots := 0, locals := 106 }) (nn_P G [.ref mo, .int a1, .int a2] (nm_W G mo ad x) sz) (nm_Qv G mo ad (m_element x a1 a2) (va_A (nm_W G mo ad x) sz)) 0 0 (va_A (nm_W G mo ad x) sz) := by
  refine Met.ofW (cc := b_Mo_element) (maxL := 5) (ret := none) (by decide) rfl ?_
  intro p e s m args below meth c s₁ B hml hv
  obtain ⟨rfl, hsz, hP, hK, hD0, hN⟩ := hv
  have hx := B.exec
  have hb := B.bytes
  have hr := B.returns
  have hts := atoms_spec (ws := w_Mo_element) B.pre
  have hg : ∀ w ∈ nn_gw, w.before _ s = true := fun w h => hts w (List.mem_cons_of_mem _ h)
  have hown : s.vm.findClass R_Mo = some m.cls := findClass_of_methodNamed B.named
  subst hsz
  have hD := hD0.self (sz := s.heap.size)
  generalize hAe : va_A (nm_W G mo ad x) s.heap.size = A at hD ⊢
  have hA : ∀ q : Nat, s.heap.size ≤ q → A q := fun q h => by rw [← hAe]; exact Or.inr h
  clear hAe
  have hS : va_S A s.heap s.heap [] := va_S.rf
  have hP : va_P G.1 nn_cls (nm_W G mo ad x) s.heap := hP
  have hl := lv_entry ([.ref mo, .int a1, .int a2]) (n := 5) (Nat.le_of_ble_eq_true rfl)
  rw [lg_entry_eq]
  generalize (lg_sl ([.ref mo, .int a1, .int a2]) ++ List.replicate (5 - (lg_sl ([.ref mo, .int a1, .int a2])).length) Slot.unset).toArray = ls at hl ⊢
  have hl : lv_has ls 5 [(0, .ref mo), (1, .int a1), (2, .int a2)] := hl
  unfold o_element at hk
  refine lv_aload_n hx hb d_Mo_element_0 rfl (lv_at hl 0 rfl) ?_
  refine lv_bipush (v := 93) hx hb d_Mo_element_1 (by decide) ?_
  obtain ⟨hi, hk⟩ := hk
  have hFc := nm_free hD hS hA
  refine va_callv (va_runV (As := [.int 93]) (rest := []) ⟨hx, hb, hml, hown, hts⟩ (t_close l G _ mo ad x 93 hi) (cwV 1 hts (nn_gV mw_1144 mw_1141 mw_1143 mw_72 mw_94) rfl rfl rfl (by decide +kernel) ⟨Nat.le_of_ble_eq_true rfl, Nat.le_of_ble_eq_true rfl⟩) (nn_preV (va_recv hK hP rfl (q0 := 0) rfl) hP hD hK hN) rfl rfl hl.1 rfl (lv_room (Nat.le_of_ble_eq_true rfl)) d_Mo_element_3 ⟨Nat.le_of_ble_eq_true rfl, Nat.le_of_ble_eq_true rfl⟩) hS (fun q _ h => hFc q h) hFc (fun u t H locs ht hvm hw hB hz1 hk1 hS => ?_)
  obtain ⟨hP1, hD1⟩ := hB
  rw [ht] at hP1
  have hP := hP1
  have hD := hD1.weaken (fun _ _ _ h => hFc _ h)
  refine lv_aload_n hx hb d_Mo_element_6 rfl (lv_at hl 0 rfl) ?_
  refine lv_bipush (v := 11) hx hb d_Mo_element_7 (by decide) ?_
  refine lv_iconst (v := 0) hx hb d_Mo_element_9 (by decide) ?_
  refine lv_aload_n hx hb d_Mo_element_10 rfl (lv_at hl 0 rfl) ?_
  refine nm_getA hx hb hg hown hK hP 20 (by decide) (by decide) (hg _ mw_910) d_Mo_element_11 ?_
  refine lv_iload_n hx hb d_Mo_element_14 rfl (lv_at hl 1 rfl) ?_
  obtain ⟨hi, hk⟩ := hk
  refine nm_ld hx hb hK hP 20 8 rfl (by decide) hi d_Mo_element_15 ?_
  obtain ⟨hi, hk⟩ := hk
  have hFc := nm_free hD hS hA
  refine va_calli (va_runV (As := [.int 11, .int 0, .int (nm_g (m_close x 93) 20 a1)]) (rest := []) ⟨hx, hb, hml, hown, hts⟩ (t_emit l G _ mo ad (m_close x 93) 11 0 (nm_g (m_close x 93) 20 a1) hi) (cwV 3 hts (nn_gV mw_1060 mw_1057 mw_1059 mw_51 mw_94) rfl rfl rfl (by decide +kernel) ⟨Nat.le_of_ble_eq_true rfl, Nat.le_of_ble_eq_true rfl⟩) (nn_preV (va_recv hK hP rfl (q0 := 0) rfl) hP hD hK hN) rfl rfl hl.1 rfl (lv_room (Nat.le_of_ble_eq_true rfl)) d_Mo_element_16 ⟨Nat.le_of_ble_eq_true rfl, Nat.le_of_ble_eq_true rfl⟩) hS (fun q _ h => hFc q h) hFc (fun r2 u t H locs ht hvm hw hB hz1 hk1 hS => ?_)
  subst hw
  obtain ⟨hP1, hD1⟩ := hB
  rw [ht] at hP1
  have hP := hP1
  have hD := hD1.weaken (fun _ _ _ h => hFc _ h)
  refine lv_istore_n (lv' := [(3, .int ((m_emit (m_close x 93) 11 0 (nm_g (m_close x 93) 20 a1)).2)), (0, .ref mo), (1, .int a1), (2, .int a2)]) hx hb d_Mo_element_19 rfl hl (by decide) rfl (fun ls hl => ?_)
  refine lv_iload_n hx hb d_Mo_element_20 rfl (lv_at hl 3 rfl) ?_
  refine lv_if_eq (tgt := 61) hx hb d_Mo_element_21 rfl (fun hc21 => ?_) (fun hc21 => ?_)
  · skip
    have hk := hk.1 hc21
    refine lv_aload_n hx hb d_Mo_element_61 rfl (lv_at hl 1 rfl) ?_
    refine lv_iconst (v := 3) hx hb d_Mo_element_62 (by decide) ?_
    refine lv_aload_n hx hb d_Mo_element_63 rfl (lv_at hl 1 rfl) ?_
    refine lv_iload_n hx hb d_Mo_element_64 rfl (lv_at hl 2 rfl) ?_
    obtain ⟨hi, hk⟩ := hk
    refine vp_callSi (va_Run.run (va_runV (As := [.int a1]) (rest := [.int 3, .ref mo]) ⟨hx, hb, hml, hown, hts⟩ (t_links l G _ mo ad ((m_emit (m_close x 93) 11 0 (nm_g (m_close x 93) 20 a1)).1) a1 hi) (cwV 1 hts (nn_gV mw_1124 mw_1121 mw_1123 mw_67 mw_94) rfl rfl rfl (by decide +kernel) ⟨Nat.le_of_ble_eq_true rfl, Nat.le_of_ble_eq_true rfl⟩) (nn_preV (va_recv hK hP rfl (q0 := 0) rfl) hP hD hK hN) rfl rfl hl.1 rfl (lv_room (Nat.le_of_ble_eq_true rfl)) d_Mo_element_65 ⟨Nat.le_of_ble_eq_true rfl, Nat.le_of_ble_eq_true rfl⟩)) (fun r3 er3 => ?_)
    subst er3
    refine lv_aload_n hx hb d_Mo_element_68 rfl (lv_at hl 1 rfl) ?_
    refine nm_getA hx hb hg hown hK hP 19 (by decide) (by decide) (hg _ mw_909) d_Mo_element_69 ?_
    refine lv_iload_n hx hb d_Mo_element_72 rfl (lv_at hl 2 rfl) ?_
    obtain ⟨hi, hk⟩ := hk
    refine nm_ld hx hb hK hP 19 7 rfl (by decide) hi d_Mo_element_73 ?_
    obtain ⟨hi, hk⟩ := hk
    have hFc := nm_free hD hS hA
    refine va_calli (va_runV (As := [.int 3, .int (m_links ((m_emit (m_close x 93) 11 0 (nm_g (m_close x 93) 20 a1)).1) a1), .int (nm_g ((m_emit (m_close x 93) 11 0 (nm_g (m_close x 93) 20 a1)).1) 19 a1)]) (rest := []) ⟨hx, hb, hml, hown, hts⟩ (t_emit l G _ mo ad ((m_emit (m_close x 93) 11 0 (nm_g (m_close x 93) 20 a1)).1) 3 (m_links ((m_emit (m_close x 93) 11 0 (nm_g (m_close x 93) 20 a1)).1) a1) (nm_g ((m_emit (m_close x 93) 11 0 (nm_g (m_close x 93) 20 a1)).1) 19 a1) hi) (cwV 3 hts (nn_gV mw_1060 mw_1057 mw_1059 mw_51 mw_94) rfl rfl rfl (by decide +kernel) ⟨Nat.le_of_ble_eq_true rfl, Nat.le_of_ble_eq_true rfl⟩) (nn_preV (va_recv hK hP rfl (q0 := 0) rfl) hP hD hK hN) rfl rfl hl.1 rfl (lv_room (Nat.le_of_ble_eq_true rfl)) d_Mo_element_74 ⟨Nat.le_of_ble_eq_true rfl, Nat.le_of_ble_eq_true rfl⟩) hS (fun q _ h => hFc q h) hFc (fun r4 u t H locs ht hvm hw hB hz1 hk1 hS => ?_)
    subst hw
    obtain ⟨hP1, hD1⟩ := hB
    rw [ht] at hP1
    have hP := hP1
    have hD := hD1.weaken (fun _ _ _ h => hFc _ h)
    refine lv_istore (lv' := [(4, .int ((m_emit ((m_emit (m_close x 93) 11 0 (nm_g (m_close x 93) 20 a1)).1) 3 (m_links ((m_emit (m_close x 93) 11 0 (nm_g (m_close x 93) 20 a1)).1) a1) (nm_g ((m_emit (m_close x 93) 11 0 (nm_g (m_close x 93) 20 a1)).1) 19 a1)).2)), (3, .int ((m_emit (m_close x 93) 11 0 (nm_g (m_close x 93) 20 a1)).2)), (0, .ref mo), (1, .int a1), (2, .int a2)]) hx hb d_Mo_element_77 hl (by decide) rfl (fun ls hl => ?_)
    have hR : m_element x a1 a2 = (m_emit ((m_emit (m_close x 93) 11 0 (nm_g (m_close x 93) 20 a1)).1) 3 (m_links ((m_emit (m_close x 93) 11 0 (nm_g (m_close x 93) 20 a1)).1) a1) (nm_g ((m_emit (m_close x 93) 11 0 (nm_g (m_close x 93) 20 a1)).1) 19 a1)).1 := by rw [m_element]; rw [if_pos hc21]
    refine nm_W1 hR ?_
    exact W.vret hx hb hr (fun t ht hW => ⟨⟨(), rfl, trivial, ⟨by rw [ht]; exact hP, hD⟩⟩, hS.F ht⟩) hS.2.2 d_Mo_element_79
  · skip
    have hk := hk.2 hc21
    refine lv_aload_n hx hb d_Mo_element_24 rfl (lv_at hl 1 rfl) ?_
    refine lv_bipush (v := 127) hx hb d_Mo_element_25 (by decide) ?_
    obtain ⟨hi, hk⟩ := hk
    have hFc := nm_free hD hS hA
    refine va_callv (va_runV (As := [.int 127]) (rest := []) ⟨hx, hb, hml, hown, hts⟩ (t_expect l G _ mo ad ((m_emit (m_close x 93) 11 0 (nm_g (m_close x 93) 20 a1)).1) 127 hi) (cwV 1 hts (nn_gV mw_1084 mw_1081 mw_1083 mw_57 mw_94) rfl rfl rfl (by decide +kernel) ⟨Nat.le_of_ble_eq_true rfl, Nat.le_of_ble_eq_true rfl⟩) (nn_preV (va_recv hK hP rfl (q0 := 0) rfl) hP hD hK hN) rfl rfl hl.1 rfl (lv_room (Nat.le_of_ble_eq_true rfl)) d_Mo_element_27 ⟨Nat.le_of_ble_eq_true rfl, Nat.le_of_ble_eq_true rfl⟩) hS (fun q _ h => hFc q h) hFc (fun u t H locs ht hvm hw hB hz1 hk1 hS => ?_)
    obtain ⟨hP1, hD1⟩ := hB
    rw [ht] at hP1
    have hP := hP1
    have hD := hD1.weaken (fun _ _ _ h => hFc _ h)
    refine lv_aload_n hx hb d_Mo_element_30 rfl (lv_at hl 1 rfl) ?_
    refine lv_bipush (v := 23) hx hb d_Mo_element_31 (by decide) ?_
    refine lv_bipush (v := 64) hx hb d_Mo_element_33 (by decide) ?_
    refine lv_aload_n hx hb d_Mo_element_35 rfl (lv_at hl 1 rfl) ?_
    refine lv_iload_n hx hb d_Mo_element_36 rfl (lv_at hl 2 rfl) ?_
    obtain ⟨hi, hk⟩ := hk
    refine vp_callSi (va_Run.run (va_runV (As := [.int a1]) (rest := [.int 64, .int 23, .ref mo]) ⟨hx, hb, hml, hown, hts⟩ (t_links l G _ mo ad (m_expect ((m_emit (m_close x 93) 11 0 (nm_g (m_close x 93) 20 a1)).1) 127) a1 hi) (cwV 1 hts (nn_gV mw_1124 mw_1121 mw_1123 mw_67 mw_94) rfl rfl rfl (by decide +kernel) ⟨Nat.le_of_ble_eq_true rfl, Nat.le_of_ble_eq_true rfl⟩) (nn_preV (va_recv hK hP rfl (q0 := 0) rfl) hP hD hK hN) rfl rfl hl.1 rfl (lv_room (Nat.le_of_ble_eq_true rfl)) d_Mo_element_37 ⟨Nat.le_of_ble_eq_true rfl, Nat.le_of_ble_eq_true rfl⟩)) (fun r6 er6 => ?_)
    subst er6
    refine lv_iadd hx hb d_Mo_element_40 ?_
    refine lv_aload_n hx hb d_Mo_element_41 rfl (lv_at hl 1 rfl) ?_
    refine nm_getA hx hb hg hown hK hP 19 (by decide) (by decide) (hg _ mw_909) d_Mo_element_42 ?_
    refine lv_iload_n hx hb d_Mo_element_45 rfl (lv_at hl 2 rfl) ?_
    obtain ⟨hi, hk⟩ := hk
    refine nm_ld hx hb hK hP 19 7 rfl (by decide) hi d_Mo_element_46 ?_
    obtain ⟨hi, hk⟩ := hk
    have hFc := nm_free hD hS hA
    refine va_callv (va_runV (As := [.int 23, .int (64 + (m_links (m_expect ((m_emit (m_close x 93) 11 0 (nm_g (m_close x 93) 20 a1)).1) 127) a1)), .int (nm_g (m_expect ((m_emit (m_close x 93) 11 0 (nm_g (m_close x 93) 20 a1)).1) 127) 19 a1)]) (rest := []) ⟨hx, hb, hml, hown, hts⟩ (t_push l G _ mo ad (m_expect ((m_emit (m_close x 93) 11 0 (nm_g (m_close x 93) 20 a1)).1) 127) 23 (64 + (m_links (m_expect ((m_emit (m_close x 93) 11 0 (nm_g (m_close x 93) 20 a1)).1) 127) a1)) (nm_g (m_expect ((m_emit (m_close x 93) 11 0 (nm_g (m_close x 93) 20 a1)).1) 127) 19 a1) hi) (cwV 3 hts (nn_gV mw_1028 mw_1025 mw_1027 mw_46 mw_94) rfl rfl rfl (by decide +kernel) ⟨Nat.le_of_ble_eq_true rfl, Nat.le_of_ble_eq_true rfl⟩) (nn_preV (va_recv hK hP rfl (q0 := 0) rfl) hP hD hK hN) rfl rfl hl.1 rfl (lv_room (Nat.le_of_ble_eq_true rfl)) d_Mo_element_47 ⟨Nat.le_of_ble_eq_true rfl, Nat.le_of_ble_eq_true rfl⟩) hS (fun q _ h => hFc q h) hFc (fun u t H locs ht hvm hw hB hz1 hk1 hS => ?_)
    obtain ⟨hP1, hD1⟩ := hB
    rw [ht] at hP1
    have hP := hP1
    have hD := hD1.weaken (fun _ _ _ h => hFc _ h)
    refine lv_aload_n hx hb d_Mo_element_50 rfl (lv_at hl 1 rfl) ?_
    refine lv_bipush (v := 14) hx hb d_Mo_element_51 (by decide) ?_
    refine lv_iconst (v := 0) hx hb d_Mo_element_53 (by decide) ?_
    refine lv_iconst (v := 0) hx hb d_Mo_element_54 (by decide) ?_
    obtain ⟨hi, hk⟩ := hk
    have hFc := nm_free hD hS hA
    refine va_callv (va_runV (As := [.int 14, .int 0, .int 0]) (rest := []) ⟨hx, hb, hml, hown, hts⟩ (t_push l G _ mo ad (m_push (m_expect ((m_emit (m_close x 93) 11 0 (nm_g (m_close x 93) 20 a1)).1) 127) 23 (64 + (m_links (m_expect ((m_emit (m_close x 93) 11 0 (nm_g (m_close x 93) 20 a1)).1) 127) a1)) (nm_g (m_expect ((m_emit (m_close x 93) 11 0 (nm_g (m_close x 93) 20 a1)).1) 127) 19 a1)) 14 0 0 hi) (cwV 3 hts (nn_gV mw_1028 mw_1025 mw_1027 mw_46 mw_94) rfl rfl rfl (by decide +kernel) ⟨Nat.le_of_ble_eq_true rfl, Nat.le_of_ble_eq_true rfl⟩) (nn_preV (va_recv hK hP rfl (q0 := 0) rfl) hP hD hK hN) rfl rfl hl.1 rfl (lv_room (Nat.le_of_ble_eq_true rfl)) d_Mo_element_55 ⟨Nat.le_of_ble_eq_true rfl, Nat.le_of_ble_eq_true rfl⟩) hS (fun q _ h => hFc q h) hFc (fun u t H locs ht hvm hw hB hz1 hk1 hS => ?_)
    obtain ⟨hP1, hD1⟩ := hB
    rw [ht] at hP1
    have hP := hP1
    have hD := hD1.weaken (fun _ _ _ h => hFc _ h)
    refine lv_goto (tgt := 79) hx hb d_Mo_element_58 rfl ?_
    have hR : m_element x a1 a2 = m_push (m_push (m_expect ((m_emit (m_close x 93) 11 0 (nm_g (m_close x 93) 20 a1)).1) 127) 23 (64 + (m_links (m_expect ((m_emit (m_close x 93) 11 0 (nm_g (m_close x 93) 20 a1)).1) 127) a1)) (nm_g (m_expect ((m_emit (m_close x 93) 11 0 (nm_g (m_close x 93) 20 a1)).1) 127) 19 a1)) 14 0 0 := by rw [m_element]; rw [if_neg hc21]
    refine nm_W1 hR ?_
    exact W.vret hx hb hr (fun t ht hW => ⟨⟨(), rfl, trivial, ⟨by rw [ht]; exact hP, hD⟩⟩, hS.F ht⟩) hS.2.2 d_Mo_element_79

theorem mw_50 : (.selects R_Mo y_Mo_block y_Mo_block : Cond) ∈ nn_gw := nn_at 50 (by decide +kernel) (by decide +kernel)
theorem mw_58 : (.selects R_Mo y_Mo_parts y_Mo_parts : Cond) ∈ nn_gw := nn_at 58 (by decide +kernel) (by decide +kernel)
theorem mw_60 : (.selects R_Mo y_Mo_row y_Mo_row : Cond) ∈ nn_gw := nn_at 60 (by decide +kernel) (by decide +kernel)
theorem mw_61 : (.selects R_Mo y_Mo_statement y_Mo_statement : Cond) ∈ nn_gw := nn_at 61 (by decide +kernel) (by decide +kernel)
theorem mw_68 : (.selects R_Mo y_Mo_condition y_Mo_condition : Cond) ∈ nn_gw := nn_at 68 (by decide +kernel) (by decide +kernel)
theorem mw_69 : (.selects R_Mo y_Mo_expression y_Mo_expression : Cond) ∈ nn_gw := nn_at 69 (by decide +kernel) (by decide +kernel)
theorem mw_70 : (.selects R_Mo y_Mo_chain y_Mo_chain : Cond) ∈ nn_gw := nn_at 70 (by decide +kernel) (by decide +kernel)
theorem mw_71 : (.selects R_Mo y_Mo_factor y_Mo_factor : Cond) ∈ nn_gw := nn_at 71 (by decide +kernel) (by decide +kernel)
theorem mw_73 : (.selects R_Mo y_Mo_element y_Mo_element : Cond) ∈ nn_gw := nn_at 73 (by decide +kernel) (by decide +kernel)
theorem mw_74 : (.selects R_Mo y_Mo_argument y_Mo_argument : Cond) ∈ nn_gw := nn_at 74 (by decide +kernel) (by decide +kernel)
theorem mw_75 : (.selects R_Mo y_Mo_branches y_Mo_branches : Cond) ∈ nn_gw := nn_at 75 (by decide +kernel) (by decide +kernel)
theorem mw_1053 : (.methodLink R_Mo 191 y_Mo_block : Cond) ∈ nn_gw := nn_at 1053 (by decide +kernel) (by decide +kernel)
theorem mw_1055 : (.instanceMethod y_Mo_block : Cond) ∈ nn_gw := nn_at 1055 (by decide +kernel) (by decide +kernel)
set_option maxRecDepth 100000 in
theorem mw_1056 : (.code y_Mo_block b_Mo_block 2 none : Cond) ∈ nn_gw := nn_at 1056 (by rfl) (by decide +kernel)
theorem mw_1085 : (.methodLink R_Mo 194 y_Mo_parts : Cond) ∈ nn_gw := nn_at 1085 (by decide +kernel) (by decide +kernel)
theorem mw_1087 : (.instanceMethod y_Mo_parts : Cond) ∈ nn_gw := nn_at 1087 (by decide +kernel) (by decide +kernel)
set_option maxRecDepth 100000 in
theorem mw_1088 : (.code y_Mo_parts b_Mo_parts 4 none : Cond) ∈ nn_gw := nn_at 1088 (by rfl) (by decide +kernel)
theorem mw_1093 : (.methodLink R_Mo 197 y_Mo_row : Cond) ∈ nn_gw := nn_at 1093 (by decide +kernel) (by decide +kernel)
theorem mw_1095 : (.instanceMethod y_Mo_row : Cond) ∈ nn_gw := nn_at 1095 (by decide +kernel) (by decide +kernel)
set_option maxRecDepth 100000 in
theorem mw_1096 : (.code y_Mo_row b_Mo_row 1 none : Cond) ∈ nn_gw := nn_at 1096 (by rfl) (by decide +kernel)
theorem mw_1097 : (.methodLink R_Mo 200 y_Mo_statement : Cond) ∈ nn_gw := nn_at 1097 (by decide +kernel) (by decide +kernel)
theorem mw_1099 : (.instanceMethod y_Mo_statement : Cond) ∈ nn_gw := nn_at 1099 (by decide +kernel) (by decide +kernel)
set_option maxRecDepth 100000 in
theorem mw_1100 : (.code y_Mo_statement b_Mo_statement 1 none : Cond) ∈ nn_gw := nn_at 1100 (by rfl) (by decide +kernel)
theorem mw_1125 : (.methodLink R_Mo 203 y_Mo_condition : Cond) ∈ nn_gw := nn_at 1125 (by decide +kernel) (by decide +kernel)
theorem mw_1127 : (.instanceMethod y_Mo_condition : Cond) ∈ nn_gw := nn_at 1127 (by decide +kernel) (by decide +kernel)
set_option maxRecDepth 100000 in
theorem mw_1128 : (.code y_Mo_condition b_Mo_condition 2 none : Cond) ∈ nn_gw := nn_at 1128 (by rfl) (by decide +kernel)
theorem mw_1129 : (.methodLink R_Mo 206 y_Mo_expression : Cond) ∈ nn_gw := nn_at 1129 (by decide +kernel) (by decide +kernel)
theorem mw_1131 : (.instanceMethod y_Mo_expression : Cond) ∈ nn_gw := nn_at 1131 (by decide +kernel) (by decide +kernel)
set_option maxRecDepth 100000 in
theorem mw_1132 : (.code y_Mo_expression b_Mo_expression 1 none : Cond) ∈ nn_gw := nn_at 1132 (by rfl) (by decide +kernel)
theorem mw_1133 : (.methodLink R_Mo 209 y_Mo_chain : Cond) ∈ nn_gw := nn_at 1133 (by decide +kernel) (by decide +kernel)
theorem mw_1135 : (.instanceMethod y_Mo_chain : Cond) ∈ nn_gw := nn_at 1135 (by decide +kernel) (by decide +kernel)
set_option maxRecDepth 100000 in
theorem mw_1136 : (.code y_Mo_chain b_Mo_chain 7 none : Cond) ∈ nn_gw := nn_at 1136 (by rfl) (by decide +kernel)
theorem mw_1137 : (.methodLink R_Mo 213 y_Mo_factor : Cond) ∈ nn_gw := nn_at 1137 (by decide +kernel) (by decide +kernel)
theorem mw_1139 : (.instanceMethod y_Mo_factor : Cond) ∈ nn_gw := nn_at 1139 (by decide +kernel) (by decide +kernel)
set_option maxRecDepth 100000 in
theorem mw_1140 : (.code y_Mo_factor b_Mo_factor 4 none : Cond) ∈ nn_gw := nn_at 1140 (by rfl) (by decide +kernel)
theorem mw_1145 : (.methodLink R_Mo 216 y_Mo_element : Cond) ∈ nn_gw := nn_at 1145 (by decide +kernel) (by decide +kernel)
theorem mw_1147 : (.instanceMethod y_Mo_element : Cond) ∈ nn_gw := nn_at 1147 (by decide +kernel) (by decide +kernel)
set_option maxRecDepth 100000 in
theorem mw_1148 : (.code y_Mo_element b_Mo_element 5 none : Cond) ∈ nn_gw := nn_at 1148 (by rfl) (by decide +kernel)
theorem mw_1149 : (.methodLink R_Mo 220 y_Mo_argument : Cond) ∈ nn_gw := nn_at 1149 (by decide +kernel) (by decide +kernel)
theorem mw_1151 : (.instanceMethod y_Mo_argument : Cond) ∈ nn_gw := nn_at 1151 (by decide +kernel) (by decide +kernel)
set_option maxRecDepth 100000 in
theorem mw_1152 : (.code y_Mo_argument b_Mo_argument 4 none : Cond) ∈ nn_gw := nn_at 1152 (by rfl) (by decide +kernel)
theorem mw_1153 : (.methodLink R_Mo 223 y_Mo_branches : Cond) ∈ nn_gw := nn_at 1153 (by decide +kernel) (by decide +kernel)
theorem mw_1155 : (.instanceMethod y_Mo_branches : Cond) ∈ nn_gw := nn_at 1155 (by decide +kernel) (by decide +kernel)
set_option maxRecDepth 100000 in
theorem mw_1156 : (.code y_Mo_branches b_Mo_branches 5 none : Cond) ∈ nn_gw := nn_at 1156 (by rfl) (by decide +kernel)
theorem d_Mo_perform_0 : decode b_Mo_perform 0 = .ok (.iload_n 1, 1) := by decide +kernel
theorem d_Mo_perform_1 : decode b_Mo_perform 1 = .ok (.tableswitch 345 0 23 #[111, 118, 127, 140, 169, 194, 201, 208, 345, 345, 345, 345, 345, 221, 228, 235, 250, 269, 284, 291, 300, 309, 318, 327], 111) := by decide +kernel
theorem d_Mo_perform_112 : decode b_Mo_perform 112 = .ok (.aload_n 0, 1) := by decide +kernel
theorem d_Mo_perform_113 : decode b_Mo_perform 113 = .ok (.invokevirtual 191, 3) := by decide +kernel
theorem d_Mo_perform_116 : decode b_Mo_perform 116 = .ok (.goto 237, 3) := by decide +kernel
theorem d_Mo_perform_119 : decode b_Mo_perform 119 = .ok (.aload_n 0, 1) := by decide +kernel
theorem d_Mo_perform_120 : decode b_Mo_perform 120 = .ok (.iload_n 2, 1) := by decide +kernel
theorem d_Mo_perform_121 : decode b_Mo_perform 121 = .ok (.iload_n 3, 1) := by decide +kernel
theorem d_Mo_perform_122 : decode b_Mo_perform 122 = .ok (.invokevirtual 194, 3) := by decide +kernel
theorem d_Mo_perform_125 : decode b_Mo_perform 125 = .ok (.goto 228, 3) := by decide +kernel
theorem d_Mo_perform_128 : decode b_Mo_perform 128 = .ok (.aload_n 0, 1) := by decide +kernel
theorem d_Mo_perform_129 : decode b_Mo_perform 129 = .ok (.bipush 9, 2) := by decide +kernel
theorem d_Mo_perform_131 : decode b_Mo_perform 131 = .ok (.iload_n 2, 1) := by decide +kernel
theorem d_Mo_perform_132 : decode b_Mo_perform 132 = .ok (.iconst 0, 1) := by decide +kernel
theorem d_Mo_perform_133 : decode b_Mo_perform 133 = .ok (.invokevirtual 152, 3) := by decide +kernel
theorem d_Mo_perform_136 : decode b_Mo_perform 136 = .ok (.istore 4, 2) := by decide +kernel
theorem d_Mo_perform_138 : decode b_Mo_perform 138 = .ok (.goto 215, 3) := by decide +kernel
theorem d_Mo_perform_141 : decode b_Mo_perform 141 = .ok (.aload_n 0, 1) := by decide +kernel
theorem d_Mo_perform_142 : decode b_Mo_perform 142 = .ok (.bipush 59, 2) := by decide +kernel
theorem d_Mo_perform_144 : decode b_Mo_perform 144 = .ok (.invokevirtual 149, 3) := by decide +kernel
theorem d_Mo_perform_147 : decode b_Mo_perform 147 = .ok (.aload_n 0, 1) := by decide +kernel
theorem d_Mo_perform_148 : decode b_Mo_perform 148 = .ok (.iload_n 2, 1) := by decide +kernel
theorem d_Mo_perform_149 : decode b_Mo_perform 149 = .ok (.putfield 124, 3) := by decide +kernel
theorem d_Mo_perform_152 : decode b_Mo_perform 152 = .ok (.aload_n 0, 1) := by decide +kernel
theorem d_Mo_perform_153 : decode b_Mo_perform 153 = .ok (.iload_n 3, 1) := by decide +kernel
theorem d_Mo_perform_154 : decode b_Mo_perform 154 = .ok (.putfield 142, 3) := by decide +kernel
theorem d_Mo_perform_157 : decode b_Mo_perform 157 = .ok (.aload_n 0, 1) := by decide +kernel
theorem d_Mo_perform_158 : decode b_Mo_perform 158 = .ok (.dup, 1) := by decide +kernel
theorem d_Mo_perform_159 : decode b_Mo_perform 159 = .ok (.getfield 130, 3) := by decide +kernel
theorem d_Mo_perform_162 : decode b_Mo_perform 162 = .ok (.iconst 1, 1) := by decide +kernel
theorem d_Mo_perform_163 : decode b_Mo_perform 163 = .ok (.isub, 1) := by decide +kernel
theorem d_Mo_perform_164 : decode b_Mo_perform 164 = .ok (.putfield 130, 3) := by decide +kernel
theorem d_Mo_perform_167 : decode b_Mo_perform 167 = .ok (.goto 186, 3) := by decide +kernel
theorem d_Mo_perform_170 : decode b_Mo_perform 170 = .ok (.aload_n 0, 1) := by decide +kernel
theorem d_Mo_perform_171 : decode b_Mo_perform 171 = .ok (.bipush 46, 2) := by decide +kernel
theorem d_Mo_perform_173 : decode b_Mo_perform 173 = .ok (.invokevirtual 149, 3) := by decide +kernel
theorem d_Mo_perform_176 : decode b_Mo_perform 176 = .ok (.aload_n 0, 1) := by decide +kernel
theorem d_Mo_perform_177 : decode b_Mo_perform 177 = .ok (.getfield 88, 3) := by decide +kernel
theorem d_Mo_perform_180 : decode b_Mo_perform 180 = .ok (.ifCond .eq 173, 3) := by decide +kernel
theorem d_Mo_perform_183 : decode b_Mo_perform 183 = .ok (.aload_n 0, 1) := by decide +kernel
theorem d_Mo_perform_184 : decode b_Mo_perform 184 = .ok (.iconst 1, 1) := by decide +kernel
theorem d_Mo_perform_185 : decode b_Mo_perform 185 = .ok (.aload_n 0, 1) := by decide +kernel
theorem d_Mo_perform_186 : decode b_Mo_perform 186 = .ok (.getfield 78, 3) := by decide +kernel
theorem d_Mo_perform_189 : decode b_Mo_perform 189 = .ok (.invokevirtual 120, 3) := by decide +kernel
theorem d_Mo_perform_192 : decode b_Mo_perform 192 = .ok (.goto 161, 3) := by decide +kernel
theorem d_Mo_perform_195 : decode b_Mo_perform 195 = .ok (.aload_n 0, 1) := by decide +kernel
theorem d_Mo_perform_196 : decode b_Mo_perform 196 = .ok (.invokevirtual 197, 3) := by decide +kernel
theorem d_Mo_perform_199 : decode b_Mo_perform 199 = .ok (.goto 154, 3) := by decide +kernel
theorem d_Mo_perform_202 : decode b_Mo_perform 202 = .ok (.aload_n 0, 1) := by decide +kernel
theorem d_Mo_perform_203 : decode b_Mo_perform 203 = .ok (.invokevirtual 200, 3) := by decide +kernel
theorem d_Mo_perform_206 : decode b_Mo_perform 206 = .ok (.goto 147, 3) := by decide +kernel
theorem d_Mo_perform_209 : decode b_Mo_perform 209 = .ok (.aload_n 0, 1) := by decide +kernel
theorem d_Mo_perform_210 : decode b_Mo_perform 210 = .ok (.dup, 1) := by decide +kernel
theorem d_Mo_perform_211 : decode b_Mo_perform 211 = .ok (.getfield 139, 3) := by decide +kernel
theorem d_Mo_perform_214 : decode b_Mo_perform 214 = .ok (.iconst 1, 1) := by decide +kernel
theorem d_Mo_perform_215 : decode b_Mo_perform 215 = .ok (.isub, 1) := by decide +kernel
theorem d_Mo_perform_216 : decode b_Mo_perform 216 = .ok (.putfield 139, 3) := by decide +kernel
theorem d_Mo_perform_219 : decode b_Mo_perform 219 = .ok (.goto 134, 3) := by decide +kernel
theorem d_Mo_perform_222 : decode b_Mo_perform 222 = .ok (.aload_n 0, 1) := by decide +kernel
theorem d_Mo_perform_223 : decode b_Mo_perform 223 = .ok (.invokevirtual 203, 3) := by decide +kernel
theorem d_Mo_perform_226 : decode b_Mo_perform 226 = .ok (.goto 127, 3) := by decide +kernel
theorem d_Mo_perform_229 : decode b_Mo_perform 229 = .ok (.aload_n 0, 1) := by decide +kernel
theorem d_Mo_perform_230 : decode b_Mo_perform 230 = .ok (.invokevirtual 206, 3) := by decide +kernel
theorem d_Mo_perform_233 : decode b_Mo_perform 233 = .ok (.goto 120, 3) := by decide +kernel
theorem d_Mo_perform_236 : decode b_Mo_perform 236 = .ok (.aload_n 0, 1) := by decide +kernel
theorem d_Mo_perform_237 : decode b_Mo_perform 237 = .ok (.iload_n 1, 1) := by decide +kernel
theorem d_Mo_perform_238 : decode b_Mo_perform 238 = .ok (.bipush 43, 2) := by decide +kernel
theorem d_Mo_perform_240 : decode b_Mo_perform 240 = .ok (.bipush 45, 2) := by decide +kernel
theorem d_Mo_perform_242 : decode b_Mo_perform 242 = .ok (.iconst 2, 1) := by decide +kernel
theorem d_Mo_perform_243 : decode b_Mo_perform 243 = .ok (.bipush 16, 2) := by decide +kernel
theorem d_Mo_perform_245 : decode b_Mo_perform 245 = .ok (.invokevirtual 209, 3) := by decide +kernel
theorem d_Mo_perform_248 : decode b_Mo_perform 248 = .ok (.goto 105, 3) := by decide +kernel
theorem d_Mo_perform_251 : decode b_Mo_perform 251 = .ok (.aload_n 0, 1) := by decide +kernel
theorem d_Mo_perform_252 : decode b_Mo_perform 252 = .ok (.bipush 17, 2) := by decide +kernel
theorem d_Mo_perform_254 : decode b_Mo_perform 254 = .ok (.iconst 0, 1) := by decide +kernel
theorem d_Mo_perform_255 : decode b_Mo_perform 255 = .ok (.iconst 0, 1) := by decide +kernel
theorem d_Mo_perform_256 : decode b_Mo_perform 256 = .ok (.invokevirtual 162, 3) := by decide +kernel
theorem d_Mo_perform_259 : decode b_Mo_perform 259 = .ok (.aload_n 0, 1) := by decide +kernel
theorem d_Mo_perform_260 : decode b_Mo_perform 260 = .ok (.bipush 18, 2) := by decide +kernel
theorem d_Mo_perform_262 : decode b_Mo_perform 262 = .ok (.iconst 0, 1) := by decide +kernel
theorem d_Mo_perform_263 : decode b_Mo_perform 263 = .ok (.iconst 0, 1) := by decide +kernel
theorem d_Mo_perform_264 : decode b_Mo_perform 264 = .ok (.invokevirtual 162, 3) := by decide +kernel
theorem d_Mo_perform_267 : decode b_Mo_perform 267 = .ok (.goto 86, 3) := by decide +kernel
theorem d_Mo_perform_270 : decode b_Mo_perform 270 = .ok (.aload_n 0, 1) := by decide +kernel
theorem d_Mo_perform_271 : decode b_Mo_perform 271 = .ok (.iload_n 1, 1) := by decide +kernel
theorem d_Mo_perform_272 : decode b_Mo_perform 272 = .ok (.bipush 42, 2) := by decide +kernel
theorem d_Mo_perform_274 : decode b_Mo_perform 274 = .ok (.bipush 47, 2) := by decide +kernel
theorem d_Mo_perform_276 : decode b_Mo_perform 276 = .ok (.iconst 4, 1) := by decide +kernel
theorem d_Mo_perform_277 : decode b_Mo_perform 277 = .ok (.bipush 18, 2) := by decide +kernel
theorem d_Mo_perform_279 : decode b_Mo_perform 279 = .ok (.invokevirtual 209, 3) := by decide +kernel
theorem d_Mo_perform_282 : decode b_Mo_perform 282 = .ok (.goto 71, 3) := by decide +kernel
theorem d_Mo_perform_285 : decode b_Mo_perform 285 = .ok (.aload_n 0, 1) := by decide +kernel
theorem d_Mo_perform_286 : decode b_Mo_perform 286 = .ok (.invokevirtual 213, 3) := by decide +kernel
theorem d_Mo_perform_289 : decode b_Mo_perform 289 = .ok (.goto 64, 3) := by decide +kernel
theorem d_Mo_perform_292 : decode b_Mo_perform 292 = .ok (.aload_n 0, 1) := by decide +kernel
theorem d_Mo_perform_293 : decode b_Mo_perform 293 = .ok (.bipush 41, 2) := by decide +kernel
theorem d_Mo_perform_295 : decode b_Mo_perform 295 = .ok (.invokevirtual 188, 3) := by decide +kernel
theorem d_Mo_perform_298 : decode b_Mo_perform 298 = .ok (.goto 55, 3) := by decide +kernel
theorem d_Mo_perform_301 : decode b_Mo_perform 301 = .ok (.aload_n 0, 1) := by decide +kernel
theorem d_Mo_perform_302 : decode b_Mo_perform 302 = .ok (.iload_n 2, 1) := by decide +kernel
theorem d_Mo_perform_303 : decode b_Mo_perform 303 = .ok (.iconst 0, 1) := by decide +kernel
theorem d_Mo_perform_304 : decode b_Mo_perform 304 = .ok (.invokevirtual 216, 3) := by decide +kernel
theorem d_Mo_perform_307 : decode b_Mo_perform 307 = .ok (.goto 46, 3) := by decide +kernel
theorem d_Mo_perform_310 : decode b_Mo_perform 310 = .ok (.aload_n 0, 1) := by decide +kernel
theorem d_Mo_perform_311 : decode b_Mo_perform 311 = .ok (.iload_n 2, 1) := by decide +kernel
theorem d_Mo_perform_312 : decode b_Mo_perform 312 = .ok (.iconst 1, 1) := by decide +kernel
theorem d_Mo_perform_313 : decode b_Mo_perform 313 = .ok (.invokevirtual 216, 3) := by decide +kernel
theorem d_Mo_perform_316 : decode b_Mo_perform 316 = .ok (.goto 37, 3) := by decide +kernel
theorem d_Mo_perform_319 : decode b_Mo_perform 319 = .ok (.aload_n 0, 1) := by decide +kernel
theorem d_Mo_perform_320 : decode b_Mo_perform 320 = .ok (.iload_n 2, 1) := by decide +kernel
theorem d_Mo_perform_321 : decode b_Mo_perform 321 = .ok (.iload_n 3, 1) := by decide +kernel
theorem d_Mo_perform_322 : decode b_Mo_perform 322 = .ok (.invokevirtual 220, 3) := by decide +kernel
theorem d_Mo_perform_325 : decode b_Mo_perform 325 = .ok (.goto 28, 3) := by decide +kernel
theorem d_Mo_perform_328 : decode b_Mo_perform 328 = .ok (.aload_n 0, 1) := by decide +kernel
theorem d_Mo_perform_329 : decode b_Mo_perform 329 = .ok (.iload_n 2, 1) := by decide +kernel
theorem d_Mo_perform_330 : decode b_Mo_perform 330 = .ok (.bipush 16, 2) := by decide +kernel
theorem d_Mo_perform_332 : decode b_Mo_perform 332 = .ok (.idiv, 1) := by decide +kernel
theorem d_Mo_perform_333 : decode b_Mo_perform 333 = .ok (.iload_n 2, 1) := by decide +kernel
theorem d_Mo_perform_334 : decode b_Mo_perform 334 = .ok (.bipush 16, 2) := by decide +kernel
theorem d_Mo_perform_336 : decode b_Mo_perform 336 = .ok (.irem, 1) := by decide +kernel
theorem d_Mo_perform_337 : decode b_Mo_perform 337 = .ok (.iload_n 3, 1) := by decide +kernel
theorem d_Mo_perform_338 : decode b_Mo_perform 338 = .ok (.invokevirtual 152, 3) := by decide +kernel
theorem d_Mo_perform_341 : decode b_Mo_perform 341 = .ok (.istore 4, 2) := by decide +kernel
theorem d_Mo_perform_343 : decode b_Mo_perform 343 = .ok (.goto 10, 3) := by decide +kernel
theorem d_Mo_perform_346 : decode b_Mo_perform 346 = .ok (.aload_n 0, 1) := by decide +kernel
theorem d_Mo_perform_347 : decode b_Mo_perform 347 = .ok (.iload_n 1, 1) := by decide +kernel
theorem d_Mo_perform_348 : decode b_Mo_perform 348 = .ok (.iload_n 2, 1) := by decide +kernel
theorem d_Mo_perform_349 : decode b_Mo_perform 349 = .ok (.iload_n 3, 1) := by decide +kernel
theorem d_Mo_perform_350 : decode b_Mo_perform 350 = .ok (.invokevirtual 223, 3) := by decide +kernel
theorem d_Mo_perform_353 : decode b_Mo_perform 353 = .ok (.return_, 1) := by decide +kernel

def m_perform (x : nM) (a1 : Int32) (a2 : Int32) (a3 : Int32) : nM := (if a1 = 0 then (m_block x) else (if a1 = 1 then (m_parts x a2 a3) else (if a1 = 2 then ((m_emit x 9 a2 0).1) else (if a1 = 3 then (nm_f (nm_f (nm_f (m_expect x 59) 15 a2) 22 a3) 21 (((m_expect x 59).1 21) - 1)) else (if a1 = 4 then (if (m_expect x 46).1 3 = 0 then (m_expect x 46) else (m_fail (m_expect x 46) 1 ((m_expect x 46).1 4))) else (if a1 = 5 then (m_row x) else (if a1 = 6 then (m_statement x) else (if a1 = 7 then (nm_f x 24 ((x.1 24) - 1)) else (if a1 = 8 then (m_branches x a1 a2 a3) else (if a1 = 9 then (m_branches x a1 a2 a3) else (if a1 = 10 then (m_branches x a1 a2 a3) else (if a1 = 11 then (m_branches x a1 a2 a3) else (if a1 = 12 then (m_branches x a1 a2 a3) else (if a1 = 13 then (m_condition x) else (if a1 = 14 then (m_expression x) else (if a1 = 15 then (m_chain x a1 43 45 2 16) else (if a1 = 16 then (m_push (m_push x 17 0 0) 18 0 0) else (if a1 = 17 then (m_chain x a1 42 47 4 18) else (if a1 = 18 then (m_factor x) else (if a1 = 19 then (m_close x 41) else (if a1 = 20 then (m_element x a2 0) else (if a1 = 21 then (m_element x a2 1) else (if a1 = 22 then (m_argument x a2 a3) else (if a1 = 23 then ((m_emit x (a2 / 16) (a2 - a2 / 16 * 16) a3).1) else (m_branches x a1 a2 a3)))))))))))))))))))))))))
def o_perform (x : nM) (a1 : Int32) (a2 : Int32) (a3 : Int32) : Prop := ((a1 = 0 → o_block x ∧ True) ∧ (¬ (a1 = 0) → ((a1 = 1 → o_parts x a2 a3 ∧ True) ∧ (¬ (a1 = 1) → ((a1 = 2 → o_emit x 9 a2 0 ∧ True) ∧ (¬ (a1 = 2) → ((a1 = 3 → o_expect x 59 ∧ True) ∧ (¬ (a1 = 3) → ((a1 = 4 → o_expect x 46 ∧ (((m_expect x 46).1 3 = 0 → True) ∧ (¬ ((m_expect x 46).1 3 = 0) → True))) ∧ (¬ (a1 = 4) → ((a1 = 5 → o_row x ∧ True) ∧ (¬ (a1 = 5) → ((a1 = 6 → o_statement x ∧ True) ∧ (¬ (a1 = 6) → ((a1 = 7 → True) ∧ (¬ (a1 = 7) → ((a1 = 8 → o_branches x a1 a2 a3 ∧ True) ∧ (¬ (a1 = 8) → ((a1 = 9 → o_branches x a1 a2 a3 ∧ True) ∧ (¬ (a1 = 9) → ((a1 = 10 → o_branches x a1 a2 a3 ∧ True) ∧ (¬ (a1 = 10) → ((a1 = 11 → o_branches x a1 a2 a3 ∧ True) ∧ (¬ (a1 = 11) → ((a1 = 12 → o_branches x a1 a2 a3 ∧ True) ∧ (¬ (a1 = 12) → ((a1 = 13 → o_condition x ∧ True) ∧ (¬ (a1 = 13) → ((a1 = 14 → o_expression x ∧ True) ∧ (¬ (a1 = 14) → ((a1 = 15 → o_chain x a1 43 45 2 16 ∧ True) ∧ (¬ (a1 = 15) → ((a1 = 16 → o_push x 17 0 0 ∧ o_push (m_push x 17 0 0) 18 0 0 ∧ True) ∧ (¬ (a1 = 16) → ((a1 = 17 → o_chain x a1 42 47 4 18 ∧ True) ∧ (¬ (a1 = 17) → ((a1 = 18 → o_factor x ∧ True) ∧ (¬ (a1 = 18) → ((a1 = 19 → o_close x 41 ∧ True) ∧ (¬ (a1 = 19) → ((a1 = 20 → o_element x a2 0 ∧ True) ∧ (¬ (a1 = 20) → ((a1 = 21 → o_element x a2 1 ∧ True) ∧ (¬ (a1 = 21) → ((a1 = 22 → o_argument x a2 a3 ∧ True) ∧ (¬ (a1 = 22) → ((a1 = 23 → o_emit x (a2 / 16) (a2 - a2 / 16 * 16) a3 ∧ True) ∧ (¬ (a1 = 23) → o_branches x a1 a2 a3 ∧ True))))))))))))))))))))))))))))))))))))))))))))))))
set_option maxHeartbeats 4000000 in
set_option maxRecDepth 100000 in
theorem t_perform (l : Launch) (G : nn_G) (sz : Nat) (mo : Nat) (ad : Nat → Nat) (x : nM) (a1 : Int32) (a2 : Int32) (a3 : Int32) (hk : o_perform x a1 a2 a3) : Met l y_Mo_perform w_Mo_perform ({ frames := 7, cells := 0, slots := 0, locals := 149 }) (nn_P G [.ref mo, .int a1, .int a2, .int a3] (nm_W G mo ad x) sz) (nm_Qv G mo ad (m_perform x a1 a2 a3) (va_A (nm_W G mo ad x) sz)) 0 0 (va_A (nm_W G mo ad x) sz) := by
  refine Met.ofW (cc := b_Mo_perform) (maxL := 5) (ret := none) (by decide) rfl ?_
  intro p e s m args below meth c s₁ B hml hv
  obtain ⟨rfl, hsz, hP, hK, hD0, hN⟩ := hv
  have hx := B.exec
  have hb := B.bytes
  have hr := B.returns
  have hts := atoms_spec (ws := w_Mo_perform) B.pre
  have hg : ∀ w ∈ nn_gw, w.before _ s = true := fun w h => hts w (List.mem_cons_of_mem _ h)
  have hown : s.vm.findClass R_Mo = some m.cls := findClass_of_methodNamed B.named
  subst hsz
  have hD := hD0.self (sz := s.heap.size)
  generalize hAe : va_A (nm_W G mo ad x) s.heap.size = A at hD ⊢
  have hA : ∀ q : Nat, s.heap.size ≤ q → A q := fun q h => by rw [← hAe]; exact Or.inr h
  clear hAe
  have hS : va_S A s.heap s.heap [] := va_S.rf
  have hP : va_P G.1 nn_cls (nm_W G mo ad x) s.heap := hP
  have hl := lv_entry ([.ref mo, .int a1, .int a2, .int a3]) (n := 5) (Nat.le_of_ble_eq_true rfl)
  rw [lg_entry_eq]
  generalize (lg_sl ([.ref mo, .int a1, .int a2, .int a3]) ++ List.replicate (5 - (lg_sl ([.ref mo, .int a1, .int a2, .int a3])).length) Slot.unset).toArray = ls at hl ⊢
  have hl : lv_has ls 5 [(0, .ref mo), (1, .int a1), (2, .int a2), (3, .int a3)] := hl
  unfold o_perform at hk
  refine lv_iload_n hx hb d_Mo_perform_0 rfl (lv_at hl 1 rfl) ?_
  by_cases hk1_0 : a1 = 0
  · skip
    have hk := hk.1 hk1_0
    refine lv_tableIn (off := 111) (tgt := 112) hx hb d_Mo_perform_1 (by rw [hk1_0]; decide) (by rw [hk1_0]; decide) (by rw [hk1_0]; decide) rfl ?_
    refine lv_aload_n hx hb d_Mo_perform_112 rfl (lv_at hl 0 rfl) ?_
    obtain ⟨hi, hk⟩ := hk
    have hFc := nm_free hD hS hA
    refine va_callv (va_runV (As := []) (rest := []) ⟨hx, hb, hml, hown, hts⟩ (t_block l G _ mo ad x hi) (cwV 0 hts (nn_gV mw_1056 mw_1053 mw_1055 mw_50 mw_94) rfl rfl rfl (by decide +kernel) ⟨Nat.le_of_ble_eq_true rfl, Nat.le_of_ble_eq_true rfl⟩) (nn_preV (va_recv hK hP rfl (q0 := 0) rfl) hP hD hK hN) rfl rfl hl.1 rfl (lv_room (Nat.le_of_ble_eq_true rfl)) d_Mo_perform_113 ⟨Nat.le_of_ble_eq_true rfl, Nat.le_of_ble_eq_true rfl⟩) hS (fun q _ h => hFc q h) hFc (fun u t H locs ht hvm hw hB hz1 hk1 hS => ?_)
    obtain ⟨hP1, hD1⟩ := hB
    rw [ht] at hP1
    have hP := hP1
    have hD := hD1.weaken (fun _ _ _ h => hFc _ h)
    refine lv_goto (tgt := 353) hx hb d_Mo_perform_116 rfl ?_
    have hR : m_perform x a1 a2 a3 = m_block x := by rw [m_perform]; rw [if_pos hk1_0]
    refine nm_W1 hR ?_
    exact W.vret hx hb hr (fun t ht hW => ⟨⟨(), rfl, trivial, ⟨by rw [ht]; exact hP, hD⟩⟩, hS.F ht⟩) hS.2.2 d_Mo_perform_353
  by_cases hk1_1 : a1 = 1
  · skip
    have hk := (hk.2 hk1_0).1 hk1_1
    refine lv_tableIn (off := 118) (tgt := 119) hx hb d_Mo_perform_1 (by rw [hk1_1]; decide) (by rw [hk1_1]; decide) (by rw [hk1_1]; decide) rfl ?_
    refine lv_aload_n hx hb d_Mo_perform_119 rfl (lv_at hl 0 rfl) ?_
    refine lv_iload_n hx hb d_Mo_perform_120 rfl (lv_at hl 2 rfl) ?_
    refine lv_iload_n hx hb d_Mo_perform_121 rfl (lv_at hl 3 rfl) ?_
    obtain ⟨hi, hk⟩ := hk
    have hFc := nm_free hD hS hA
    refine va_callv (va_runV (As := [.int a2, .int a3]) (rest := []) ⟨hx, hb, hml, hown, hts⟩ (t_parts l G _ mo ad x a2 a3 hi) (cwV 2 hts (nn_gV mw_1088 mw_1085 mw_1087 mw_58 mw_94) rfl rfl rfl (by decide +kernel) ⟨Nat.le_of_ble_eq_true rfl, Nat.le_of_ble_eq_true rfl⟩) (nn_preV (va_recv hK hP rfl (q0 := 0) rfl) hP hD hK hN) rfl rfl hl.1 rfl (lv_room (Nat.le_of_ble_eq_true rfl)) d_Mo_perform_122 ⟨Nat.le_of_ble_eq_true rfl, Nat.le_of_ble_eq_true rfl⟩) hS (fun q _ h => hFc q h) hFc (fun u t H locs ht hvm hw hB hz1 hk1 hS => ?_)
    obtain ⟨hP1, hD1⟩ := hB
    rw [ht] at hP1
    have hP := hP1
    have hD := hD1.weaken (fun _ _ _ h => hFc _ h)
    refine lv_goto (tgt := 353) hx hb d_Mo_perform_125 rfl ?_
    have hR : m_perform x a1 a2 a3 = m_parts x a2 a3 := by rw [m_perform]; rw [if_neg hk1_0]; rw [if_pos hk1_1]
    refine nm_W1 hR ?_
    exact W.vret hx hb hr (fun t ht hW => ⟨⟨(), rfl, trivial, ⟨by rw [ht]; exact hP, hD⟩⟩, hS.F ht⟩) hS.2.2 d_Mo_perform_353
  by_cases hk1_2 : a1 = 2
  · skip
    have hk := ((hk.2 hk1_0).2 hk1_1).1 hk1_2
    refine lv_tableIn (off := 127) (tgt := 128) hx hb d_Mo_perform_1 (by rw [hk1_2]; decide) (by rw [hk1_2]; decide) (by rw [hk1_2]; decide) rfl ?_
    refine lv_aload_n hx hb d_Mo_perform_128 rfl (lv_at hl 0 rfl) ?_
    refine lv_bipush (v := 9) hx hb d_Mo_perform_129 (by decide) ?_
    refine lv_iload_n hx hb d_Mo_perform_131 rfl (lv_at hl 2 rfl) ?_
    refine lv_iconst (v := 0) hx hb d_Mo_perform_132 (by decide) ?_
    obtain ⟨hi, hk⟩ := hk
    have hFc := nm_free hD hS hA
    refine va_calli (va_runV (As := [.int 9, .int a2, .int 0]) (rest := []) ⟨hx, hb, hml, hown, hts⟩ (t_emit l G _ mo ad x 9 a2 0 hi) (cwV 3 hts (nn_gV mw_1060 mw_1057 mw_1059 mw_51 mw_94) rfl rfl rfl (by decide +kernel) ⟨Nat.le_of_ble_eq_true rfl, Nat.le_of_ble_eq_true rfl⟩) (nn_preV (va_recv hK hP rfl (q0 := 0) rfl) hP hD hK hN) rfl rfl hl.1 rfl (lv_room (Nat.le_of_ble_eq_true rfl)) d_Mo_perform_133 ⟨Nat.le_of_ble_eq_true rfl, Nat.le_of_ble_eq_true rfl⟩) hS (fun q _ h => hFc q h) hFc (fun r3 u t H locs ht hvm hw hB hz1 hk1 hS => ?_)
    subst hw
    obtain ⟨hP1, hD1⟩ := hB
    rw [ht] at hP1
    have hP := hP1
    have hD := hD1.weaken (fun _ _ _ h => hFc _ h)
    refine lv_istore (lv' := [(4, .int ((m_emit x 9 a2 0).2)), (0, .ref mo), (1, .int a1), (2, .int a2), (3, .int a3)]) hx hb d_Mo_perform_136 hl (by decide) rfl (fun ls hl => ?_)
    refine lv_goto (tgt := 353) hx hb d_Mo_perform_138 rfl ?_
    have hR : m_perform x a1 a2 a3 = (m_emit x 9 a2 0).1 := by rw [m_perform]; rw [if_neg hk1_0]; rw [if_neg hk1_1]; rw [if_pos hk1_2]
    refine nm_W1 hR ?_
    exact W.vret hx hb hr (fun t ht hW => ⟨⟨(), rfl, trivial, ⟨by rw [ht]; exact hP, hD⟩⟩, hS.F ht⟩) hS.2.2 d_Mo_perform_353
  by_cases hk1_3 : a1 = 3
  · skip
    have hk := (((hk.2 hk1_0).2 hk1_1).2 hk1_2).1 hk1_3
    refine lv_tableIn (off := 140) (tgt := 141) hx hb d_Mo_perform_1 (by rw [hk1_3]; decide) (by rw [hk1_3]; decide) (by rw [hk1_3]; decide) rfl ?_
    refine lv_aload_n hx hb d_Mo_perform_141 rfl (lv_at hl 0 rfl) ?_
    refine lv_bipush (v := 59) hx hb d_Mo_perform_142 (by decide) ?_
    obtain ⟨hi, hk⟩ := hk
    have hFc := nm_free hD hS hA
    refine va_callv (va_runV (As := [.int 59]) (rest := []) ⟨hx, hb, hml, hown, hts⟩ (t_expect l G _ mo ad x 59 hi) (cwV 1 hts (nn_gV mw_1084 mw_1081 mw_1083 mw_57 mw_94) rfl rfl rfl (by decide +kernel) ⟨Nat.le_of_ble_eq_true rfl, Nat.le_of_ble_eq_true rfl⟩) (nn_preV (va_recv hK hP rfl (q0 := 0) rfl) hP hD hK hN) rfl rfl hl.1 rfl (lv_room (Nat.le_of_ble_eq_true rfl)) d_Mo_perform_144 ⟨Nat.le_of_ble_eq_true rfl, Nat.le_of_ble_eq_true rfl⟩) hS (fun q _ h => hFc q h) hFc (fun u t H locs ht hvm hw hB hz1 hk1 hS => ?_)
    obtain ⟨hP1, hD1⟩ := hB
    rw [ht] at hP1
    have hP := hP1
    have hD := hD1.weaken (fun _ _ _ h => hFc _ h)
    refine lv_aload_n hx hb d_Mo_perform_147 rfl (lv_at hl 0 rfl) ?_
    refine lv_iload_n hx hb d_Mo_perform_148 rfl (lv_at hl 2 rfl) ?_
    refine nm_put hx hb hg hown hK hP hD hS 15 (by decide) (by decide) (by decide) (hg _ mw_905) d_Mo_perform_149 (fun H locs hP hD hS => ?_)
    refine lv_aload_n hx hb d_Mo_perform_152 rfl (lv_at hl 0 rfl) ?_
    refine lv_iload_n hx hb d_Mo_perform_153 rfl (lv_at hl 3 rfl) ?_
    refine nm_put hx hb hg hown hK hP hD hS 22 (by decide) (by decide) (by decide) (hg _ mw_912) d_Mo_perform_154 (fun H locs hP hD hS => ?_)
    refine lv_aload_n hx hb d_Mo_perform_157 rfl (lv_at hl 0 rfl) ?_
    refine lv_dup hx hb d_Mo_perform_158 rfl ?_
    refine nm_get hx hb hg hown hK hP 21 (by decide) (by decide) (hg _ mw_911) d_Mo_perform_159 ?_
    refine nb_top ((m_expect x 59).1 21) rfl ?_
    refine lv_iconst (v := 1) hx hb d_Mo_perform_162 (by decide) ?_
    refine lv_isub hx hb d_Mo_perform_163 ?_
    refine nm_put hx hb hg hown hK hP hD hS 21 (by decide) (by decide) (by decide) (hg _ mw_911) d_Mo_perform_164 (fun H locs hP hD hS => ?_)
    refine lv_goto (tgt := 353) hx hb d_Mo_perform_167 rfl ?_
    have hR : m_perform x a1 a2 a3 = nm_f (nm_f (nm_f (m_expect x 59) 15 a2) 22 a3) 21 (((m_expect x 59).1 21) - 1) := by rw [m_perform]; rw [if_neg hk1_0]; rw [if_neg hk1_1]; rw [if_neg hk1_2]; rw [if_pos hk1_3]
    refine nm_W1 hR ?_
    exact W.vret hx hb hr (fun t ht hW => ⟨⟨(), rfl, trivial, ⟨by rw [ht]; exact hP, hD⟩⟩, hS.F ht⟩) hS.2.2 d_Mo_perform_353
  by_cases hk1_4 : a1 = 4
  · skip
    have hk := ((((hk.2 hk1_0).2 hk1_1).2 hk1_2).2 hk1_3).1 hk1_4
    refine lv_tableIn (off := 169) (tgt := 170) hx hb d_Mo_perform_1 (by rw [hk1_4]; decide) (by rw [hk1_4]; decide) (by rw [hk1_4]; decide) rfl ?_
    refine lv_aload_n hx hb d_Mo_perform_170 rfl (lv_at hl 0 rfl) ?_
    refine lv_bipush (v := 46) hx hb d_Mo_perform_171 (by decide) ?_
    obtain ⟨hi, hk⟩ := hk
    have hFc := nm_free hD hS hA
    refine va_callv (va_runV (As := [.int 46]) (rest := []) ⟨hx, hb, hml, hown, hts⟩ (t_expect l G _ mo ad x 46 hi) (cwV 1 hts (nn_gV mw_1084 mw_1081 mw_1083 mw_57 mw_94) rfl rfl rfl (by decide +kernel) ⟨Nat.le_of_ble_eq_true rfl, Nat.le_of_ble_eq_true rfl⟩) (nn_preV (va_recv hK hP rfl (q0 := 0) rfl) hP hD hK hN) rfl rfl hl.1 rfl (lv_room (Nat.le_of_ble_eq_true rfl)) d_Mo_perform_173 ⟨Nat.le_of_ble_eq_true rfl, Nat.le_of_ble_eq_true rfl⟩) hS (fun q _ h => hFc q h) hFc (fun u t H locs ht hvm hw hB hz1 hk1 hS => ?_)
    obtain ⟨hP1, hD1⟩ := hB
    rw [ht] at hP1
    have hP := hP1
    have hD := hD1.weaken (fun _ _ _ h => hFc _ h)
    refine lv_aload_n hx hb d_Mo_perform_176 rfl (lv_at hl 0 rfl) ?_
    refine nm_get hx hb hg hown hK hP 3 (by decide) (by decide) (hg _ mw_893) d_Mo_perform_177 ?_
    refine lv_if_eq (tgt := 353) hx hb d_Mo_perform_180 rfl (fun hc180 => ?_) (fun hc180 => ?_)
    · skip
      have hk := hk.1 hc180
      have hR : m_perform x a1 a2 a3 = m_expect x 46 := by rw [m_perform]; rw [if_neg hk1_0]; rw [if_neg hk1_1]; rw [if_neg hk1_2]; rw [if_neg hk1_3]; rw [if_pos hk1_4]; rw [if_pos hc180]
      refine nm_W1 hR ?_
      exact W.vret hx hb hr (fun t ht hW => ⟨⟨(), rfl, trivial, ⟨by rw [ht]; exact hP, hD⟩⟩, hS.F ht⟩) hS.2.2 d_Mo_perform_353
    · skip
      have hk := hk.2 hc180
      refine lv_aload_n hx hb d_Mo_perform_183 rfl (lv_at hl 0 rfl) ?_
      refine lv_iconst (v := 1) hx hb d_Mo_perform_184 (by decide) ?_
      refine lv_aload_n hx hb d_Mo_perform_185 rfl (lv_at hl 0 rfl) ?_
      refine nm_get hx hb hg hown hK hP 4 (by decide) (by decide) (hg _ mw_894) d_Mo_perform_186 ?_
      have hFc := nm_free hD hS hA
      refine va_callv (va_runV (As := [.int 1, .int ((m_expect x 46).1 4)]) (rest := []) ⟨hx, hb, hml, hown, hts⟩ (t_fail l G _ mo ad (m_expect x 46) 1 ((m_expect x 46).1 4)) (cwV 2 hts (nn_gV mw_1080 mw_1077 mw_1079 mw_56 mw_94) rfl rfl rfl (by decide +kernel) ⟨Nat.le_of_ble_eq_true rfl, Nat.le_of_ble_eq_true rfl⟩) (nn_preV (va_recv hK hP rfl (q0 := 0) rfl) hP hD hK hN) rfl rfl hl.1 rfl (lv_room (Nat.le_of_ble_eq_true rfl)) d_Mo_perform_189 ⟨Nat.le_of_ble_eq_true rfl, Nat.le_of_ble_eq_true rfl⟩) hS (fun q _ h => hFc q h) hFc (fun u t H locs ht hvm hw hB hz1 hk1 hS => ?_)
      obtain ⟨hP1, hD1⟩ := hB
      rw [ht] at hP1
      have hP := hP1
      have hD := hD1.weaken (fun _ _ _ h => hFc _ h)
      refine lv_goto (tgt := 353) hx hb d_Mo_perform_192 rfl ?_
      have hR : m_perform x a1 a2 a3 = m_fail (m_expect x 46) 1 ((m_expect x 46).1 4) := by rw [m_perform]; rw [if_neg hk1_0]; rw [if_neg hk1_1]; rw [if_neg hk1_2]; rw [if_neg hk1_3]; rw [if_pos hk1_4]; rw [if_neg hc180]
      refine nm_W1 hR ?_
      exact W.vret hx hb hr (fun t ht hW => ⟨⟨(), rfl, trivial, ⟨by rw [ht]; exact hP, hD⟩⟩, hS.F ht⟩) hS.2.2 d_Mo_perform_353
  by_cases hk1_5 : a1 = 5
  · skip
    have hk := (((((hk.2 hk1_0).2 hk1_1).2 hk1_2).2 hk1_3).2 hk1_4).1 hk1_5
    refine lv_tableIn (off := 194) (tgt := 195) hx hb d_Mo_perform_1 (by rw [hk1_5]; decide) (by rw [hk1_5]; decide) (by rw [hk1_5]; decide) rfl ?_
    refine lv_aload_n hx hb d_Mo_perform_195 rfl (lv_at hl 0 rfl) ?_
    obtain ⟨hi, hk⟩ := hk
    have hFc := nm_free hD hS hA
    refine va_callv (va_runV (As := []) (rest := []) ⟨hx, hb, hml, hown, hts⟩ (t_row l G _ mo ad x hi) (cwV 0 hts (nn_gV mw_1096 mw_1093 mw_1095 mw_60 mw_94) rfl rfl rfl (by decide +kernel) ⟨Nat.le_of_ble_eq_true rfl, Nat.le_of_ble_eq_true rfl⟩) (nn_preV (va_recv hK hP rfl (q0 := 0) rfl) hP hD hK hN) rfl rfl hl.1 rfl (lv_room (Nat.le_of_ble_eq_true rfl)) d_Mo_perform_196 ⟨Nat.le_of_ble_eq_true rfl, Nat.le_of_ble_eq_true rfl⟩) hS (fun q _ h => hFc q h) hFc (fun u t H locs ht hvm hw hB hz1 hk1 hS => ?_)
    obtain ⟨hP1, hD1⟩ := hB
    rw [ht] at hP1
    have hP := hP1
    have hD := hD1.weaken (fun _ _ _ h => hFc _ h)
    refine lv_goto (tgt := 353) hx hb d_Mo_perform_199 rfl ?_
    have hR : m_perform x a1 a2 a3 = m_row x := by rw [m_perform]; rw [if_neg hk1_0]; rw [if_neg hk1_1]; rw [if_neg hk1_2]; rw [if_neg hk1_3]; rw [if_neg hk1_4]; rw [if_pos hk1_5]
    refine nm_W1 hR ?_
    exact W.vret hx hb hr (fun t ht hW => ⟨⟨(), rfl, trivial, ⟨by rw [ht]; exact hP, hD⟩⟩, hS.F ht⟩) hS.2.2 d_Mo_perform_353
  by_cases hk1_6 : a1 = 6
  · skip
    have hk := ((((((hk.2 hk1_0).2 hk1_1).2 hk1_2).2 hk1_3).2 hk1_4).2 hk1_5).1 hk1_6
    refine lv_tableIn (off := 201) (tgt := 202) hx hb d_Mo_perform_1 (by rw [hk1_6]; decide) (by rw [hk1_6]; decide) (by rw [hk1_6]; decide) rfl ?_
    refine lv_aload_n hx hb d_Mo_perform_202 rfl (lv_at hl 0 rfl) ?_
    obtain ⟨hi, hk⟩ := hk
    have hFc := nm_free hD hS hA
    refine va_callv (va_runV (As := []) (rest := []) ⟨hx, hb, hml, hown, hts⟩ (t_statement l G _ mo ad x hi) (cwV 0 hts (nn_gV mw_1100 mw_1097 mw_1099 mw_61 mw_94) rfl rfl rfl (by decide +kernel) ⟨Nat.le_of_ble_eq_true rfl, Nat.le_of_ble_eq_true rfl⟩) (nn_preV (va_recv hK hP rfl (q0 := 0) rfl) hP hD hK hN) rfl rfl hl.1 rfl (lv_room (Nat.le_of_ble_eq_true rfl)) d_Mo_perform_203 ⟨Nat.le_of_ble_eq_true rfl, Nat.le_of_ble_eq_true rfl⟩) hS (fun q _ h => hFc q h) hFc (fun u t H locs ht hvm hw hB hz1 hk1 hS => ?_)
    obtain ⟨hP1, hD1⟩ := hB
    rw [ht] at hP1
    have hP := hP1
    have hD := hD1.weaken (fun _ _ _ h => hFc _ h)
    refine lv_goto (tgt := 353) hx hb d_Mo_perform_206 rfl ?_
    have hR : m_perform x a1 a2 a3 = m_statement x := by rw [m_perform]; rw [if_neg hk1_0]; rw [if_neg hk1_1]; rw [if_neg hk1_2]; rw [if_neg hk1_3]; rw [if_neg hk1_4]; rw [if_neg hk1_5]; rw [if_pos hk1_6]
    refine nm_W1 hR ?_
    exact W.vret hx hb hr (fun t ht hW => ⟨⟨(), rfl, trivial, ⟨by rw [ht]; exact hP, hD⟩⟩, hS.F ht⟩) hS.2.2 d_Mo_perform_353
  by_cases hk1_7 : a1 = 7
  · skip
    have hk := (((((((hk.2 hk1_0).2 hk1_1).2 hk1_2).2 hk1_3).2 hk1_4).2 hk1_5).2 hk1_6).1 hk1_7
    refine lv_tableIn (off := 208) (tgt := 209) hx hb d_Mo_perform_1 (by rw [hk1_7]; decide) (by rw [hk1_7]; decide) (by rw [hk1_7]; decide) rfl ?_
    refine lv_aload_n hx hb d_Mo_perform_209 rfl (lv_at hl 0 rfl) ?_
    refine lv_dup hx hb d_Mo_perform_210 rfl ?_
    refine nm_get hx hb hg hown hK hP 24 (by decide) (by decide) (hg _ mw_914) d_Mo_perform_211 ?_
    refine lv_iconst (v := 1) hx hb d_Mo_perform_214 (by decide) ?_
    refine lv_isub hx hb d_Mo_perform_215 ?_
    refine nm_put hx hb hg hown hK hP hD hS 24 (by decide) (by decide) (by decide) (hg _ mw_914) d_Mo_perform_216 (fun H locs hP hD hS => ?_)
    refine lv_goto (tgt := 353) hx hb d_Mo_perform_219 rfl ?_
    have hR : m_perform x a1 a2 a3 = nm_f x 24 ((x.1 24) - 1) := by rw [m_perform]; rw [if_neg hk1_0]; rw [if_neg hk1_1]; rw [if_neg hk1_2]; rw [if_neg hk1_3]; rw [if_neg hk1_4]; rw [if_neg hk1_5]; rw [if_neg hk1_6]; rw [if_pos hk1_7]
    refine nm_W1 hR ?_
    exact W.vret hx hb hr (fun t ht hW => ⟨⟨(), rfl, trivial, ⟨by rw [ht]; exact hP, hD⟩⟩, hS.F ht⟩) hS.2.2 d_Mo_perform_353
  by_cases hk1_8 : a1 = 8
  · skip
    have hk := ((((((((hk.2 hk1_0).2 hk1_1).2 hk1_2).2 hk1_3).2 hk1_4).2 hk1_5).2 hk1_6).2 hk1_7).1 hk1_8
    refine lv_tableIn (off := 345) (tgt := 346) hx hb d_Mo_perform_1 (by rw [hk1_8]; decide) (by rw [hk1_8]; decide) (by rw [hk1_8]; decide) rfl ?_
    refine lv_aload_n hx hb d_Mo_perform_346 rfl (lv_at hl 0 rfl) ?_
    refine lv_iload_n hx hb d_Mo_perform_347 rfl (lv_at hl 1 rfl) ?_
    refine lv_iload_n hx hb d_Mo_perform_348 rfl (lv_at hl 2 rfl) ?_
    refine lv_iload_n hx hb d_Mo_perform_349 rfl (lv_at hl 3 rfl) ?_
    obtain ⟨hi, hk⟩ := hk
    have hFc := nm_free hD hS hA
    refine va_callv (va_runV (As := [.int a1, .int a2, .int a3]) (rest := []) ⟨hx, hb, hml, hown, hts⟩ (t_branches l G _ mo ad x a1 a2 a3 hi) (cwV 3 hts (nn_gV mw_1156 mw_1153 mw_1155 mw_75 mw_94) rfl rfl rfl (by decide +kernel) ⟨Nat.le_of_ble_eq_true rfl, Nat.le_of_ble_eq_true rfl⟩) (nn_preV (va_recv hK hP rfl (q0 := 0) rfl) hP hD hK hN) rfl rfl hl.1 rfl (lv_room (Nat.le_of_ble_eq_true rfl)) d_Mo_perform_350 ⟨Nat.le_of_ble_eq_true rfl, Nat.le_of_ble_eq_true rfl⟩) hS (fun q _ h => hFc q h) hFc (fun u t H locs ht hvm hw hB hz1 hk1 hS => ?_)
    obtain ⟨hP1, hD1⟩ := hB
    rw [ht] at hP1
    have hP := hP1
    have hD := hD1.weaken (fun _ _ _ h => hFc _ h)
    have hR : m_perform x a1 a2 a3 = m_branches x a1 a2 a3 := by rw [m_perform]; rw [if_neg hk1_0]; rw [if_neg hk1_1]; rw [if_neg hk1_2]; rw [if_neg hk1_3]; rw [if_neg hk1_4]; rw [if_neg hk1_5]; rw [if_neg hk1_6]; rw [if_neg hk1_7]; rw [if_pos hk1_8]
    refine nm_W1 hR ?_
    exact W.vret hx hb hr (fun t ht hW => ⟨⟨(), rfl, trivial, ⟨by rw [ht]; exact hP, hD⟩⟩, hS.F ht⟩) hS.2.2 d_Mo_perform_353
  by_cases hk1_9 : a1 = 9
  · skip
    have hk := (((((((((hk.2 hk1_0).2 hk1_1).2 hk1_2).2 hk1_3).2 hk1_4).2 hk1_5).2 hk1_6).2 hk1_7).2 hk1_8).1 hk1_9
    refine lv_tableIn (off := 345) (tgt := 346) hx hb d_Mo_perform_1 (by rw [hk1_9]; decide) (by rw [hk1_9]; decide) (by rw [hk1_9]; decide) rfl ?_
    refine lv_aload_n hx hb d_Mo_perform_346 rfl (lv_at hl 0 rfl) ?_
    refine lv_iload_n hx hb d_Mo_perform_347 rfl (lv_at hl 1 rfl) ?_
    refine lv_iload_n hx hb d_Mo_perform_348 rfl (lv_at hl 2 rfl) ?_
    refine lv_iload_n hx hb d_Mo_perform_349 rfl (lv_at hl 3 rfl) ?_
    obtain ⟨hi, hk⟩ := hk
    have hFc := nm_free hD hS hA
    refine va_callv (va_runV (As := [.int a1, .int a2, .int a3]) (rest := []) ⟨hx, hb, hml, hown, hts⟩ (t_branches l G _ mo ad x a1 a2 a3 hi) (cwV 3 hts (nn_gV mw_1156 mw_1153 mw_1155 mw_75 mw_94) rfl rfl rfl (by decide +kernel) ⟨Nat.le_of_ble_eq_true rfl, Nat.le_of_ble_eq_true rfl⟩) (nn_preV (va_recv hK hP rfl (q0 := 0) rfl) hP hD hK hN) rfl rfl hl.1 rfl (lv_room (Nat.le_of_ble_eq_true rfl)) d_Mo_perform_350 ⟨Nat.le_of_ble_eq_true rfl, Nat.le_of_ble_eq_true rfl⟩) hS (fun q _ h => hFc q h) hFc (fun u t H locs ht hvm hw hB hz1 hk1 hS => ?_)
    obtain ⟨hP1, hD1⟩ := hB
    rw [ht] at hP1
    have hP := hP1
    have hD := hD1.weaken (fun _ _ _ h => hFc _ h)
    have hR : m_perform x a1 a2 a3 = m_branches x a1 a2 a3 := by rw [m_perform]; rw [if_neg hk1_0]; rw [if_neg hk1_1]; rw [if_neg hk1_2]; rw [if_neg hk1_3]; rw [if_neg hk1_4]; rw [if_neg hk1_5]; rw [if_neg hk1_6]; rw [if_neg hk1_7]; rw [if_neg hk1_8]; rw [if_pos hk1_9]
    refine nm_W1 hR ?_
    exact W.vret hx hb hr (fun t ht hW => ⟨⟨(), rfl, trivial, ⟨by rw [ht]; exact hP, hD⟩⟩, hS.F ht⟩) hS.2.2 d_Mo_perform_353
  by_cases hk1_10 : a1 = 10
  · skip
    have hk := ((((((((((hk.2 hk1_0).2 hk1_1).2 hk1_2).2 hk1_3).2 hk1_4).2 hk1_5).2 hk1_6).2 hk1_7).2 hk1_8).2 hk1_9).1 hk1_10
    refine lv_tableIn (off := 345) (tgt := 346) hx hb d_Mo_perform_1 (by rw [hk1_10]; decide) (by rw [hk1_10]; decide) (by rw [hk1_10]; decide) rfl ?_
    refine lv_aload_n hx hb d_Mo_perform_346 rfl (lv_at hl 0 rfl) ?_
    refine lv_iload_n hx hb d_Mo_perform_347 rfl (lv_at hl 1 rfl) ?_
    refine lv_iload_n hx hb d_Mo_perform_348 rfl (lv_at hl 2 rfl) ?_
    refine lv_iload_n hx hb d_Mo_perform_349 rfl (lv_at hl 3 rfl) ?_
    obtain ⟨hi, hk⟩ := hk
    have hFc := nm_free hD hS hA
    refine va_callv (va_runV (As := [.int a1, .int a2, .int a3]) (rest := []) ⟨hx, hb, hml, hown, hts⟩ (t_branches l G _ mo ad x a1 a2 a3 hi) (cwV 3 hts (nn_gV mw_1156 mw_1153 mw_1155 mw_75 mw_94) rfl rfl rfl (by decide +kernel) ⟨Nat.le_of_ble_eq_true rfl, Nat.le_of_ble_eq_true rfl⟩) (nn_preV (va_recv hK hP rfl (q0 := 0) rfl) hP hD hK hN) rfl rfl hl.1 rfl (lv_room (Nat.le_of_ble_eq_true rfl)) d_Mo_perform_350 ⟨Nat.le_of_ble_eq_true rfl, Nat.le_of_ble_eq_true rfl⟩) hS (fun q _ h => hFc q h) hFc (fun u t H locs ht hvm hw hB hz1 hk1 hS => ?_)
    obtain ⟨hP1, hD1⟩ := hB
    rw [ht] at hP1
    have hP := hP1
    have hD := hD1.weaken (fun _ _ _ h => hFc _ h)
    have hR : m_perform x a1 a2 a3 = m_branches x a1 a2 a3 := by rw [m_perform]; rw [if_neg hk1_0]; rw [if_neg hk1_1]; rw [if_neg hk1_2]; rw [if_neg hk1_3]; rw [if_neg hk1_4]; rw [if_neg hk1_5]; rw [if_neg hk1_6]; rw [if_neg hk1_7]; rw [if_neg hk1_8]; rw [if_neg hk1_9]; rw [if_pos hk1_10]
    refine nm_W1 hR ?_
    exact W.vret hx hb hr (fun t ht hW => ⟨⟨(), rfl, trivial, ⟨by rw [ht]; exact hP, hD⟩⟩, hS.F ht⟩) hS.2.2 d_Mo_perform_353
  by_cases hk1_11 : a1 = 11
  · skip
    have hk := (((((((((((hk.2 hk1_0).2 hk1_1).2 hk1_2).2 hk1_3).2 hk1_4).2 hk1_5).2 hk1_6).2 hk1_7).2 hk1_8).2 hk1_9).2 hk1_10).1 hk1_11
    refine lv_tableIn (off := 345) (tgt := 346) hx hb d_Mo_perform_1 (by rw [hk1_11]; decide) (by rw [hk1_11]; decide) (by rw [hk1_11]; decide) rfl ?_
    refine lv_aload_n hx hb d_Mo_perform_346 rfl (lv_at hl 0 rfl) ?_
    refine lv_iload_n hx hb d_Mo_perform_347 rfl (lv_at hl 1 rfl) ?_
    refine lv_iload_n hx hb d_Mo_perform_348 rfl (lv_at hl 2 rfl) ?_
    refine lv_iload_n hx hb d_Mo_perform_349 rfl (lv_at hl 3 rfl) ?_
    obtain ⟨hi, hk⟩ := hk
    have hFc := nm_free hD hS hA
    refine va_callv (va_runV (As := [.int a1, .int a2, .int a3]) (rest := []) ⟨hx, hb, hml, hown, hts⟩ (t_branches l G _ mo ad x a1 a2 a3 hi) (cwV 3 hts (nn_gV mw_1156 mw_1153 mw_1155 mw_75 mw_94) rfl rfl rfl (by decide +kernel) ⟨Nat.le_of_ble_eq_true rfl, Nat.le_of_ble_eq_true rfl⟩) (nn_preV (va_recv hK hP rfl (q0 := 0) rfl) hP hD hK hN) rfl rfl hl.1 rfl (lv_room (Nat.le_of_ble_eq_true rfl)) d_Mo_perform_350 ⟨Nat.le_of_ble_eq_true rfl, Nat.le_of_ble_eq_true rfl⟩) hS (fun q _ h => hFc q h) hFc (fun u t H locs ht hvm hw hB hz1 hk1 hS => ?_)
    obtain ⟨hP1, hD1⟩ := hB
    rw [ht] at hP1
    have hP := hP1
    have hD := hD1.weaken (fun _ _ _ h => hFc _ h)
    have hR : m_perform x a1 a2 a3 = m_branches x a1 a2 a3 := by rw [m_perform]; rw [if_neg hk1_0]; rw [if_neg hk1_1]; rw [if_neg hk1_2]; rw [if_neg hk1_3]; rw [if_neg hk1_4]; rw [if_neg hk1_5]; rw [if_neg hk1_6]; rw [if_neg hk1_7]; rw [if_neg hk1_8]; rw [if_neg hk1_9]; rw [if_neg hk1_10]; rw [if_pos hk1_11]
    refine nm_W1 hR ?_
    exact W.vret hx hb hr (fun t ht hW => ⟨⟨(), rfl, trivial, ⟨by rw [ht]; exact hP, hD⟩⟩, hS.F ht⟩) hS.2.2 d_Mo_perform_353
  by_cases hk1_12 : a1 = 12
  · skip
    have hk := ((((((((((((hk.2 hk1_0).2 hk1_1).2 hk1_2).2 hk1_3).2 hk1_4).2 hk1_5).2 hk1_6).2 hk1_7).2 hk1_8).2 hk1_9).2 hk1_10).2 hk1_11).1 hk1_12
    refine lv_tableIn (off := 345) (tgt := 346) hx hb d_Mo_perform_1 (by rw [hk1_12]; decide) (by rw [hk1_12]; decide) (by rw [hk1_12]; decide) rfl ?_
    refine lv_aload_n hx hb d_Mo_perform_346 rfl (lv_at hl 0 rfl) ?_
    refine lv_iload_n hx hb d_Mo_perform_347 rfl (lv_at hl 1 rfl) ?_
    refine lv_iload_n hx hb d_Mo_perform_348 rfl (lv_at hl 2 rfl) ?_
    refine lv_iload_n hx hb d_Mo_perform_349 rfl (lv_at hl 3 rfl) ?_
    obtain ⟨hi, hk⟩ := hk
    have hFc := nm_free hD hS hA
    refine va_callv (va_runV (As := [.int a1, .int a2, .int a3]) (rest := []) ⟨hx, hb, hml, hown, hts⟩ (t_branches l G _ mo ad x a1 a2 a3 hi) (cwV 3 hts (nn_gV mw_1156 mw_1153 mw_1155 mw_75 mw_94) rfl rfl rfl (by decide +kernel) ⟨Nat.le_of_ble_eq_true rfl, Nat.le_of_ble_eq_true rfl⟩) (nn_preV (va_recv hK hP rfl (q0 := 0) rfl) hP hD hK hN) rfl rfl hl.1 rfl (lv_room (Nat.le_of_ble_eq_true rfl)) d_Mo_perform_350 ⟨Nat.le_of_ble_eq_true rfl, Nat.le_of_ble_eq_true rfl⟩) hS (fun q _ h => hFc q h) hFc (fun u t H locs ht hvm hw hB hz1 hk1 hS => ?_)
    obtain ⟨hP1, hD1⟩ := hB
    rw [ht] at hP1
    have hP := hP1
    have hD := hD1.weaken (fun _ _ _ h => hFc _ h)
    have hR : m_perform x a1 a2 a3 = m_branches x a1 a2 a3 := by rw [m_perform]; rw [if_neg hk1_0]; rw [if_neg hk1_1]; rw [if_neg hk1_2]; rw [if_neg hk1_3]; rw [if_neg hk1_4]; rw [if_neg hk1_5]; rw [if_neg hk1_6]; rw [if_neg hk1_7]; rw [if_neg hk1_8]; rw [if_neg hk1_9]; rw [if_neg hk1_10]; rw [if_neg hk1_11]; rw [if_pos hk1_12]
    refine nm_W1 hR ?_
    exact W.vret hx hb hr (fun t ht hW => ⟨⟨(), rfl, trivial, ⟨by rw [ht]; exact hP, hD⟩⟩, hS.F ht⟩) hS.2.2 d_Mo_perform_353
  by_cases hk1_13 : a1 = 13
  · skip
    have hk := (((((((((((((hk.2 hk1_0).2 hk1_1).2 hk1_2).2 hk1_3).2 hk1_4).2 hk1_5).2 hk1_6).2 hk1_7).2 hk1_8).2 hk1_9).2 hk1_10).2 hk1_11).2 hk1_12).1 hk1_13
    refine lv_tableIn (off := 221) (tgt := 222) hx hb d_Mo_perform_1 (by rw [hk1_13]; decide) (by rw [hk1_13]; decide) (by rw [hk1_13]; decide) rfl ?_
    refine lv_aload_n hx hb d_Mo_perform_222 rfl (lv_at hl 0 rfl) ?_
    obtain ⟨hi, hk⟩ := hk
    have hFc := nm_free hD hS hA
    refine va_callv (va_runV (As := []) (rest := []) ⟨hx, hb, hml, hown, hts⟩ (t_condition l G _ mo ad x hi) (cwV 0 hts (nn_gV mw_1128 mw_1125 mw_1127 mw_68 mw_94) rfl rfl rfl (by decide +kernel) ⟨Nat.le_of_ble_eq_true rfl, Nat.le_of_ble_eq_true rfl⟩) (nn_preV (va_recv hK hP rfl (q0 := 0) rfl) hP hD hK hN) rfl rfl hl.1 rfl (lv_room (Nat.le_of_ble_eq_true rfl)) d_Mo_perform_223 ⟨Nat.le_of_ble_eq_true rfl, Nat.le_of_ble_eq_true rfl⟩) hS (fun q _ h => hFc q h) hFc (fun u t H locs ht hvm hw hB hz1 hk1 hS => ?_)
    obtain ⟨hP1, hD1⟩ := hB
    rw [ht] at hP1
    have hP := hP1
    have hD := hD1.weaken (fun _ _ _ h => hFc _ h)
    refine lv_goto (tgt := 353) hx hb d_Mo_perform_226 rfl ?_
    have hR : m_perform x a1 a2 a3 = m_condition x := by rw [m_perform]; rw [if_neg hk1_0]; rw [if_neg hk1_1]; rw [if_neg hk1_2]; rw [if_neg hk1_3]; rw [if_neg hk1_4]; rw [if_neg hk1_5]; rw [if_neg hk1_6]; rw [if_neg hk1_7]; rw [if_neg hk1_8]; rw [if_neg hk1_9]; rw [if_neg hk1_10]; rw [if_neg hk1_11]; rw [if_neg hk1_12]; rw [if_pos hk1_13]
    refine nm_W1 hR ?_
    exact W.vret hx hb hr (fun t ht hW => ⟨⟨(), rfl, trivial, ⟨by rw [ht]; exact hP, hD⟩⟩, hS.F ht⟩) hS.2.2 d_Mo_perform_353
  by_cases hk1_14 : a1 = 14
  · skip
    have hk := ((((((((((((((hk.2 hk1_0).2 hk1_1).2 hk1_2).2 hk1_3).2 hk1_4).2 hk1_5).2 hk1_6).2 hk1_7).2 hk1_8).2 hk1_9).2 hk1_10).2 hk1_11).2 hk1_12).2 hk1_13).1 hk1_14
    refine lv_tableIn (off := 228) (tgt := 229) hx hb d_Mo_perform_1 (by rw [hk1_14]; decide) (by rw [hk1_14]; decide) (by rw [hk1_14]; decide) rfl ?_
    refine lv_aload_n hx hb d_Mo_perform_229 rfl (lv_at hl 0 rfl) ?_
    obtain ⟨hi, hk⟩ := hk
    have hFc := nm_free hD hS hA
    refine va_callv (va_runV (As := []) (rest := []) ⟨hx, hb, hml, hown, hts⟩ (t_expression l G _ mo ad x hi) (cwV 0 hts (nn_gV mw_1132 mw_1129 mw_1131 mw_69 mw_94) rfl rfl rfl (by decide +kernel) ⟨Nat.le_of_ble_eq_true rfl, Nat.le_of_ble_eq_true rfl⟩) (nn_preV (va_recv hK hP rfl (q0 := 0) rfl) hP hD hK hN) rfl rfl hl.1 rfl (lv_room (Nat.le_of_ble_eq_true rfl)) d_Mo_perform_230 ⟨Nat.le_of_ble_eq_true rfl, Nat.le_of_ble_eq_true rfl⟩) hS (fun q _ h => hFc q h) hFc (fun u t H locs ht hvm hw hB hz1 hk1 hS => ?_)
    obtain ⟨hP1, hD1⟩ := hB
    rw [ht] at hP1
    have hP := hP1
    have hD := hD1.weaken (fun _ _ _ h => hFc _ h)
    refine lv_goto (tgt := 353) hx hb d_Mo_perform_233 rfl ?_
    have hR : m_perform x a1 a2 a3 = m_expression x := by rw [m_perform]; rw [if_neg hk1_0]; rw [if_neg hk1_1]; rw [if_neg hk1_2]; rw [if_neg hk1_3]; rw [if_neg hk1_4]; rw [if_neg hk1_5]; rw [if_neg hk1_6]; rw [if_neg hk1_7]; rw [if_neg hk1_8]; rw [if_neg hk1_9]; rw [if_neg hk1_10]; rw [if_neg hk1_11]; rw [if_neg hk1_12]; rw [if_neg hk1_13]; rw [if_pos hk1_14]
    refine nm_W1 hR ?_
    exact W.vret hx hb hr (fun t ht hW => ⟨⟨(), rfl, trivial, ⟨by rw [ht]; exact hP, hD⟩⟩, hS.F ht⟩) hS.2.2 d_Mo_perform_353
  by_cases hk1_15 : a1 = 15
  · skip
    have hk := (((((((((((((((hk.2 hk1_0).2 hk1_1).2 hk1_2).2 hk1_3).2 hk1_4).2 hk1_5).2 hk1_6).2 hk1_7).2 hk1_8).2 hk1_9).2 hk1_10).2 hk1_11).2 hk1_12).2 hk1_13).2 hk1_14).1 hk1_15
    refine lv_tableIn (off := 235) (tgt := 236) hx hb d_Mo_perform_1 (by rw [hk1_15]; decide) (by rw [hk1_15]; decide) (by rw [hk1_15]; decide) rfl ?_
    refine lv_aload_n hx hb d_Mo_perform_236 rfl (lv_at hl 0 rfl) ?_
    refine lv_iload_n hx hb d_Mo_perform_237 rfl (lv_at hl 1 rfl) ?_
    refine lv_bipush (v := 43) hx hb d_Mo_perform_238 (by decide) ?_
    refine lv_bipush (v := 45) hx hb d_Mo_perform_240 (by decide) ?_
    refine lv_iconst (v := 2) hx hb d_Mo_perform_242 (by decide) ?_
    refine lv_bipush (v := 16) hx hb d_Mo_perform_243 (by decide) ?_
    obtain ⟨hi, hk⟩ := hk
    have hFc := nm_free hD hS hA
    refine va_callv (va_runV (As := [.int a1, .int 43, .int 45, .int 2, .int 16]) (rest := []) ⟨hx, hb, hml, hown, hts⟩ (t_chain l G _ mo ad x a1 43 45 2 16 hi) (cwV 5 hts (nn_gV mw_1136 mw_1133 mw_1135 mw_70 mw_94) rfl rfl rfl (by decide +kernel) ⟨Nat.le_of_ble_eq_true rfl, Nat.le_of_ble_eq_true rfl⟩) (nn_preV (va_recv hK hP rfl (q0 := 0) rfl) hP hD hK hN) rfl rfl hl.1 rfl (lv_room (Nat.le_of_ble_eq_true rfl)) d_Mo_perform_245 ⟨Nat.le_of_ble_eq_true rfl, Nat.le_of_ble_eq_true rfl⟩) hS (fun q _ h => hFc q h) hFc (fun u t H locs ht hvm hw hB hz1 hk1 hS => ?_)
    obtain ⟨hP1, hD1⟩ := hB
    rw [ht] at hP1
    have hP := hP1
    have hD := hD1.weaken (fun _ _ _ h => hFc _ h)
    refine lv_goto (tgt := 353) hx hb d_Mo_perform_248 rfl ?_
    have hR : m_perform x a1 a2 a3 = m_chain x a1 43 45 2 16 := by rw [m_perform]; rw [if_neg hk1_0]; rw [if_neg hk1_1]; rw [if_neg hk1_2]; rw [if_neg hk1_3]; rw [if_neg hk1_4]; rw [if_neg hk1_5]; rw [if_neg hk1_6]; rw [if_neg hk1_7]; rw [if_neg hk1_8]; rw [if_neg hk1_9]; rw [if_neg hk1_10]; rw [if_neg hk1_11]; rw [if_neg hk1_12]; rw [if_neg hk1_13]; rw [if_neg hk1_14]; rw [if_pos hk1_15]
    refine nm_W1 hR ?_
    exact W.vret hx hb hr (fun t ht hW => ⟨⟨(), rfl, trivial, ⟨by rw [ht]; exact hP, hD⟩⟩, hS.F ht⟩) hS.2.2 d_Mo_perform_353
  by_cases hk1_16 : a1 = 16
  · skip
    have hk := ((((((((((((((((hk.2 hk1_0).2 hk1_1).2 hk1_2).2 hk1_3).2 hk1_4).2 hk1_5).2 hk1_6).2 hk1_7).2 hk1_8).2 hk1_9).2 hk1_10).2 hk1_11).2 hk1_12).2 hk1_13).2 hk1_14).2 hk1_15).1 hk1_16
    refine lv_tableIn (off := 250) (tgt := 251) hx hb d_Mo_perform_1 (by rw [hk1_16]; decide) (by rw [hk1_16]; decide) (by rw [hk1_16]; decide) rfl ?_
    refine lv_aload_n hx hb d_Mo_perform_251 rfl (lv_at hl 0 rfl) ?_
    refine lv_bipush (v := 17) hx hb d_Mo_perform_252 (by decide) ?_
    refine lv_iconst (v := 0) hx hb d_Mo_perform_254 (by decide) ?_
    refine lv_iconst (v := 0) hx hb d_Mo_perform_255 (by decide) ?_
    obtain ⟨hi, hk⟩ := hk
    have hFc := nm_free hD hS hA
    refine va_callv (va_runV (As := [.int 17, .int 0, .int 0]) (rest := []) ⟨hx, hb, hml, hown, hts⟩ (t_push l G _ mo ad x 17 0 0 hi) (cwV 3 hts (nn_gV mw_1028 mw_1025 mw_1027 mw_46 mw_94) rfl rfl rfl (by decide +kernel) ⟨Nat.le_of_ble_eq_true rfl, Nat.le_of_ble_eq_true rfl⟩) (nn_preV (va_recv hK hP rfl (q0 := 0) rfl) hP hD hK hN) rfl rfl hl.1 rfl (lv_room (Nat.le_of_ble_eq_true rfl)) d_Mo_perform_256 ⟨Nat.le_of_ble_eq_true rfl, Nat.le_of_ble_eq_true rfl⟩) hS (fun q _ h => hFc q h) hFc (fun u t H locs ht hvm hw hB hz1 hk1 hS => ?_)
    obtain ⟨hP1, hD1⟩ := hB
    rw [ht] at hP1
    have hP := hP1
    have hD := hD1.weaken (fun _ _ _ h => hFc _ h)
    refine lv_aload_n hx hb d_Mo_perform_259 rfl (lv_at hl 0 rfl) ?_
    refine lv_bipush (v := 18) hx hb d_Mo_perform_260 (by decide) ?_
    refine lv_iconst (v := 0) hx hb d_Mo_perform_262 (by decide) ?_
    refine lv_iconst (v := 0) hx hb d_Mo_perform_263 (by decide) ?_
    obtain ⟨hi, hk⟩ := hk
    have hFc := nm_free hD hS hA
    refine va_callv (va_runV (As := [.int 18, .int 0, .int 0]) (rest := []) ⟨hx, hb, hml, hown, hts⟩ (t_push l G _ mo ad (m_push x 17 0 0) 18 0 0 hi) (cwV 3 hts (nn_gV mw_1028 mw_1025 mw_1027 mw_46 mw_94) rfl rfl rfl (by decide +kernel) ⟨Nat.le_of_ble_eq_true rfl, Nat.le_of_ble_eq_true rfl⟩) (nn_preV (va_recv hK hP rfl (q0 := 0) rfl) hP hD hK hN) rfl rfl hl.1 rfl (lv_room (Nat.le_of_ble_eq_true rfl)) d_Mo_perform_264 ⟨Nat.le_of_ble_eq_true rfl, Nat.le_of_ble_eq_true rfl⟩) hS (fun q _ h => hFc q h) hFc (fun u t H locs ht hvm hw hB hz1 hk1 hS => ?_)
    obtain ⟨hP1, hD1⟩ := hB
    rw [ht] at hP1
    have hP := hP1
    have hD := hD1.weaken (fun _ _ _ h => hFc _ h)
    refine lv_goto (tgt := 353) hx hb d_Mo_perform_267 rfl ?_
    have hR : m_perform x a1 a2 a3 = m_push (m_push x 17 0 0) 18 0 0 := by rw [m_perform]; rw [if_neg hk1_0]; rw [if_neg hk1_1]; rw [if_neg hk1_2]; rw [if_neg hk1_3]; rw [if_neg hk1_4]; rw [if_neg hk1_5]; rw [if_neg hk1_6]; rw [if_neg hk1_7]; rw [if_neg hk1_8]; rw [if_neg hk1_9]; rw [if_neg hk1_10]; rw [if_neg hk1_11]; rw [if_neg hk1_12]; rw [if_neg hk1_13]; rw [if_neg hk1_14]; rw [if_neg hk1_15]; rw [if_pos hk1_16]
    refine nm_W1 hR ?_
    exact W.vret hx hb hr (fun t ht hW => ⟨⟨(), rfl, trivial, ⟨by rw [ht]; exact hP, hD⟩⟩, hS.F ht⟩) hS.2.2 d_Mo_perform_353
  by_cases hk1_17 : a1 = 17
  · skip
    have hk := (((((((((((((((((hk.2 hk1_0).2 hk1_1).2 hk1_2).2 hk1_3).2 hk1_4).2 hk1_5).2 hk1_6).2 hk1_7).2 hk1_8).2 hk1_9).2 hk1_10).2 hk1_11).2 hk1_12).2 hk1_13).2 hk1_14).2 hk1_15).2 hk1_16).1 hk1_17
    refine lv_tableIn (off := 269) (tgt := 270) hx hb d_Mo_perform_1 (by rw [hk1_17]; decide) (by rw [hk1_17]; decide) (by rw [hk1_17]; decide) rfl ?_
    refine lv_aload_n hx hb d_Mo_perform_270 rfl (lv_at hl 0 rfl) ?_
    refine lv_iload_n hx hb d_Mo_perform_271 rfl (lv_at hl 1 rfl) ?_
    refine lv_bipush (v := 42) hx hb d_Mo_perform_272 (by decide) ?_
    refine lv_bipush (v := 47) hx hb d_Mo_perform_274 (by decide) ?_
    refine lv_iconst (v := 4) hx hb d_Mo_perform_276 (by decide) ?_
    refine lv_bipush (v := 18) hx hb d_Mo_perform_277 (by decide) ?_
    obtain ⟨hi, hk⟩ := hk
    have hFc := nm_free hD hS hA
    refine va_callv (va_runV (As := [.int a1, .int 42, .int 47, .int 4, .int 18]) (rest := []) ⟨hx, hb, hml, hown, hts⟩ (t_chain l G _ mo ad x a1 42 47 4 18 hi) (cwV 5 hts (nn_gV mw_1136 mw_1133 mw_1135 mw_70 mw_94) rfl rfl rfl (by decide +kernel) ⟨Nat.le_of_ble_eq_true rfl, Nat.le_of_ble_eq_true rfl⟩) (nn_preV (va_recv hK hP rfl (q0 := 0) rfl) hP hD hK hN) rfl rfl hl.1 rfl (lv_room (Nat.le_of_ble_eq_true rfl)) d_Mo_perform_279 ⟨Nat.le_of_ble_eq_true rfl, Nat.le_of_ble_eq_true rfl⟩) hS (fun q _ h => hFc q h) hFc (fun u t H locs ht hvm hw hB hz1 hk1 hS => ?_)
    obtain ⟨hP1, hD1⟩ := hB
    rw [ht] at hP1
    have hP := hP1
    have hD := hD1.weaken (fun _ _ _ h => hFc _ h)
    refine lv_goto (tgt := 353) hx hb d_Mo_perform_282 rfl ?_
    have hR : m_perform x a1 a2 a3 = m_chain x a1 42 47 4 18 := by rw [m_perform]; rw [if_neg hk1_0]; rw [if_neg hk1_1]; rw [if_neg hk1_2]; rw [if_neg hk1_3]; rw [if_neg hk1_4]; rw [if_neg hk1_5]; rw [if_neg hk1_6]; rw [if_neg hk1_7]; rw [if_neg hk1_8]; rw [if_neg hk1_9]; rw [if_neg hk1_10]; rw [if_neg hk1_11]; rw [if_neg hk1_12]; rw [if_neg hk1_13]; rw [if_neg hk1_14]; rw [if_neg hk1_15]; rw [if_neg hk1_16]; rw [if_pos hk1_17]
    refine nm_W1 hR ?_
    exact W.vret hx hb hr (fun t ht hW => ⟨⟨(), rfl, trivial, ⟨by rw [ht]; exact hP, hD⟩⟩, hS.F ht⟩) hS.2.2 d_Mo_perform_353
  by_cases hk1_18 : a1 = 18
  · skip
    have hk := ((((((((((((((((((hk.2 hk1_0).2 hk1_1).2 hk1_2).2 hk1_3).2 hk1_4).2 hk1_5).2 hk1_6).2 hk1_7).2 hk1_8).2 hk1_9).2 hk1_10).2 hk1_11).2 hk1_12).2 hk1_13).2 hk1_14).2 hk1_15).2 hk1_16).2 hk1_17).1 hk1_18
    refine lv_tableIn (off := 284) (tgt := 285) hx hb d_Mo_perform_1 (by rw [hk1_18]; decide) (by rw [hk1_18]; decide) (by rw [hk1_18]; decide) rfl ?_
    refine lv_aload_n hx hb d_Mo_perform_285 rfl (lv_at hl 0 rfl) ?_
    obtain ⟨hi, hk⟩ := hk
    have hFc := nm_free hD hS hA
    refine va_callv (va_runV (As := []) (rest := []) ⟨hx, hb, hml, hown, hts⟩ (t_factor l G _ mo ad x hi) (cwV 0 hts (nn_gV mw_1140 mw_1137 mw_1139 mw_71 mw_94) rfl rfl rfl (by decide +kernel) ⟨Nat.le_of_ble_eq_true rfl, Nat.le_of_ble_eq_true rfl⟩) (nn_preV (va_recv hK hP rfl (q0 := 0) rfl) hP hD hK hN) rfl rfl hl.1 rfl (lv_room (Nat.le_of_ble_eq_true rfl)) d_Mo_perform_286 ⟨Nat.le_of_ble_eq_true rfl, Nat.le_of_ble_eq_true rfl⟩) hS (fun q _ h => hFc q h) hFc (fun u t H locs ht hvm hw hB hz1 hk1 hS => ?_)
    obtain ⟨hP1, hD1⟩ := hB
    rw [ht] at hP1
    have hP := hP1
    have hD := hD1.weaken (fun _ _ _ h => hFc _ h)
    refine lv_goto (tgt := 353) hx hb d_Mo_perform_289 rfl ?_
    have hR : m_perform x a1 a2 a3 = m_factor x := by rw [m_perform]; rw [if_neg hk1_0]; rw [if_neg hk1_1]; rw [if_neg hk1_2]; rw [if_neg hk1_3]; rw [if_neg hk1_4]; rw [if_neg hk1_5]; rw [if_neg hk1_6]; rw [if_neg hk1_7]; rw [if_neg hk1_8]; rw [if_neg hk1_9]; rw [if_neg hk1_10]; rw [if_neg hk1_11]; rw [if_neg hk1_12]; rw [if_neg hk1_13]; rw [if_neg hk1_14]; rw [if_neg hk1_15]; rw [if_neg hk1_16]; rw [if_neg hk1_17]; rw [if_pos hk1_18]
    refine nm_W1 hR ?_
    exact W.vret hx hb hr (fun t ht hW => ⟨⟨(), rfl, trivial, ⟨by rw [ht]; exact hP, hD⟩⟩, hS.F ht⟩) hS.2.2 d_Mo_perform_353
  by_cases hk1_19 : a1 = 19
  · skip
    have hk := (((((((((((((((((((hk.2 hk1_0).2 hk1_1).2 hk1_2).2 hk1_3).2 hk1_4).2 hk1_5).2 hk1_6).2 hk1_7).2 hk1_8).2 hk1_9).2 hk1_10).2 hk1_11).2 hk1_12).2 hk1_13).2 hk1_14).2 hk1_15).2 hk1_16).2 hk1_17).2 hk1_18).1 hk1_19
    refine lv_tableIn (off := 291) (tgt := 292) hx hb d_Mo_perform_1 (by rw [hk1_19]; decide) (by rw [hk1_19]; decide) (by rw [hk1_19]; decide) rfl ?_
    refine lv_aload_n hx hb d_Mo_perform_292 rfl (lv_at hl 0 rfl) ?_
    refine lv_bipush (v := 41) hx hb d_Mo_perform_293 (by decide) ?_
    obtain ⟨hi, hk⟩ := hk
    have hFc := nm_free hD hS hA
    refine va_callv (va_runV (As := [.int 41]) (rest := []) ⟨hx, hb, hml, hown, hts⟩ (t_close l G _ mo ad x 41 hi) (cwV 1 hts (nn_gV mw_1144 mw_1141 mw_1143 mw_72 mw_94) rfl rfl rfl (by decide +kernel) ⟨Nat.le_of_ble_eq_true rfl, Nat.le_of_ble_eq_true rfl⟩) (nn_preV (va_recv hK hP rfl (q0 := 0) rfl) hP hD hK hN) rfl rfl hl.1 rfl (lv_room (Nat.le_of_ble_eq_true rfl)) d_Mo_perform_295 ⟨Nat.le_of_ble_eq_true rfl, Nat.le_of_ble_eq_true rfl⟩) hS (fun q _ h => hFc q h) hFc (fun u t H locs ht hvm hw hB hz1 hk1 hS => ?_)
    obtain ⟨hP1, hD1⟩ := hB
    rw [ht] at hP1
    have hP := hP1
    have hD := hD1.weaken (fun _ _ _ h => hFc _ h)
    refine lv_goto (tgt := 353) hx hb d_Mo_perform_298 rfl ?_
    have hR : m_perform x a1 a2 a3 = m_close x 41 := by rw [m_perform]; rw [if_neg hk1_0]; rw [if_neg hk1_1]; rw [if_neg hk1_2]; rw [if_neg hk1_3]; rw [if_neg hk1_4]; rw [if_neg hk1_5]; rw [if_neg hk1_6]; rw [if_neg hk1_7]; rw [if_neg hk1_8]; rw [if_neg hk1_9]; rw [if_neg hk1_10]; rw [if_neg hk1_11]; rw [if_neg hk1_12]; rw [if_neg hk1_13]; rw [if_neg hk1_14]; rw [if_neg hk1_15]; rw [if_neg hk1_16]; rw [if_neg hk1_17]; rw [if_neg hk1_18]; rw [if_pos hk1_19]
    refine nm_W1 hR ?_
    exact W.vret hx hb hr (fun t ht hW => ⟨⟨(), rfl, trivial, ⟨by rw [ht]; exact hP, hD⟩⟩, hS.F ht⟩) hS.2.2 d_Mo_perform_353
  by_cases hk1_20 : a1 = 20
  · skip
    have hk := ((((((((((((((((((((hk.2 hk1_0).2 hk1_1).2 hk1_2).2 hk1_3).2 hk1_4).2 hk1_5).2 hk1_6).2 hk1_7).2 hk1_8).2 hk1_9).2 hk1_10).2 hk1_11).2 hk1_12).2 hk1_13).2 hk1_14).2 hk1_15).2 hk1_16).2 hk1_17).2 hk1_18).2 hk1_19).1 hk1_20
    refine lv_tableIn (off := 300) (tgt := 301) hx hb d_Mo_perform_1 (by rw [hk1_20]; decide) (by rw [hk1_20]; decide) (by rw [hk1_20]; decide) rfl ?_
    refine lv_aload_n hx hb d_Mo_perform_301 rfl (lv_at hl 0 rfl) ?_
    refine lv_iload_n hx hb d_Mo_perform_302 rfl (lv_at hl 2 rfl) ?_
    refine lv_iconst (v := 0) hx hb d_Mo_perform_303 (by decide) ?_
    obtain ⟨hi, hk⟩ := hk
    have hFc := nm_free hD hS hA
    refine va_callv (va_runV (As := [.int a2, .int 0]) (rest := []) ⟨hx, hb, hml, hown, hts⟩ (t_element l G _ mo ad x a2 0 hi) (cwV 2 hts (nn_gV mw_1148 mw_1145 mw_1147 mw_73 mw_94) rfl rfl rfl (by decide +kernel) ⟨Nat.le_of_ble_eq_true rfl, Nat.le_of_ble_eq_true rfl⟩) (nn_preV (va_recv hK hP rfl (q0 := 0) rfl) hP hD hK hN) rfl rfl hl.1 rfl (lv_room (Nat.le_of_ble_eq_true rfl)) d_Mo_perform_304 ⟨Nat.le_of_ble_eq_true rfl, Nat.le_of_ble_eq_true rfl⟩) hS (fun q _ h => hFc q h) hFc (fun u t H locs ht hvm hw hB hz1 hk1 hS => ?_)
    obtain ⟨hP1, hD1⟩ := hB
    rw [ht] at hP1
    have hP := hP1
    have hD := hD1.weaken (fun _ _ _ h => hFc _ h)
    refine lv_goto (tgt := 353) hx hb d_Mo_perform_307 rfl ?_
    have hR : m_perform x a1 a2 a3 = m_element x a2 0 := by rw [m_perform]; rw [if_neg hk1_0]; rw [if_neg hk1_1]; rw [if_neg hk1_2]; rw [if_neg hk1_3]; rw [if_neg hk1_4]; rw [if_neg hk1_5]; rw [if_neg hk1_6]; rw [if_neg hk1_7]; rw [if_neg hk1_8]; rw [if_neg hk1_9]; rw [if_neg hk1_10]; rw [if_neg hk1_11]; rw [if_neg hk1_12]; rw [if_neg hk1_13]; rw [if_neg hk1_14]; rw [if_neg hk1_15]; rw [if_neg hk1_16]; rw [if_neg hk1_17]; rw [if_neg hk1_18]; rw [if_neg hk1_19]; rw [if_pos hk1_20]
    refine nm_W1 hR ?_
    exact W.vret hx hb hr (fun t ht hW => ⟨⟨(), rfl, trivial, ⟨by rw [ht]; exact hP, hD⟩⟩, hS.F ht⟩) hS.2.2 d_Mo_perform_353
  by_cases hk1_21 : a1 = 21
  · skip
    have hk := (((((((((((((((((((((hk.2 hk1_0).2 hk1_1).2 hk1_2).2 hk1_3).2 hk1_4).2 hk1_5).2 hk1_6).2 hk1_7).2 hk1_8).2 hk1_9).2 hk1_10).2 hk1_11).2 hk1_12).2 hk1_13).2 hk1_14).2 hk1_15).2 hk1_16).2 hk1_17).2 hk1_18).2 hk1_19).2 hk1_20).1 hk1_21
    refine lv_tableIn (off := 309) (tgt := 310) hx hb d_Mo_perform_1 (by rw [hk1_21]; decide) (by rw [hk1_21]; decide) (by rw [hk1_21]; decide) rfl ?_
    refine lv_aload_n hx hb d_Mo_perform_310 rfl (lv_at hl 0 rfl) ?_
    refine lv_iload_n hx hb d_Mo_perform_311 rfl (lv_at hl 2 rfl) ?_
    refine lv_iconst (v := 1) hx hb d_Mo_perform_312 (by decide) ?_
    obtain ⟨hi, hk⟩ := hk
    have hFc := nm_free hD hS hA
    refine va_callv (va_runV (As := [.int a2, .int 1]) (rest := []) ⟨hx, hb, hml, hown, hts⟩ (t_element l G _ mo ad x a2 1 hi) (cwV 2 hts (nn_gV mw_1148 mw_1145 mw_1147 mw_73 mw_94) rfl rfl rfl (by decide +kernel) ⟨Nat.le_of_ble_eq_true rfl, Nat.le_of_ble_eq_true rfl⟩) (nn_preV (va_recv hK hP rfl (q0 := 0) rfl) hP hD hK hN) rfl rfl hl.1 rfl (lv_room (Nat.le_of_ble_eq_true rfl)) d_Mo_perform_313 ⟨Nat.le_of_ble_eq_true rfl, Nat.le_of_ble_eq_true rfl⟩) hS (fun q _ h => hFc q h) hFc (fun u t H locs ht hvm hw hB hz1 hk1 hS => ?_)
    obtain ⟨hP1, hD1⟩ := hB
    rw [ht] at hP1
    have hP := hP1
    have hD := hD1.weaken (fun _ _ _ h => hFc _ h)
    refine lv_goto (tgt := 353) hx hb d_Mo_perform_316 rfl ?_
    have hR : m_perform x a1 a2 a3 = m_element x a2 1 := by rw [m_perform]; rw [if_neg hk1_0]; rw [if_neg hk1_1]; rw [if_neg hk1_2]; rw [if_neg hk1_3]; rw [if_neg hk1_4]; rw [if_neg hk1_5]; rw [if_neg hk1_6]; rw [if_neg hk1_7]; rw [if_neg hk1_8]; rw [if_neg hk1_9]; rw [if_neg hk1_10]; rw [if_neg hk1_11]; rw [if_neg hk1_12]; rw [if_neg hk1_13]; rw [if_neg hk1_14]; rw [if_neg hk1_15]; rw [if_neg hk1_16]; rw [if_neg hk1_17]; rw [if_neg hk1_18]; rw [if_neg hk1_19]; rw [if_neg hk1_20]; rw [if_pos hk1_21]
    refine nm_W1 hR ?_
    exact W.vret hx hb hr (fun t ht hW => ⟨⟨(), rfl, trivial, ⟨by rw [ht]; exact hP, hD⟩⟩, hS.F ht⟩) hS.2.2 d_Mo_perform_353
  by_cases hk1_22 : a1 = 22
  · skip
    have hk := ((((((((((((((((((((((hk.2 hk1_0).2 hk1_1).2 hk1_2).2 hk1_3).2 hk1_4).2 hk1_5).2 hk1_6).2 hk1_7).2 hk1_8).2 hk1_9).2 hk1_10).2 hk1_11).2 hk1_12).2 hk1_13).2 hk1_14).2 hk1_15).2 hk1_16).2 hk1_17).2 hk1_18).2 hk1_19).2 hk1_20).2 hk1_21).1 hk1_22
    refine lv_tableIn (off := 318) (tgt := 319) hx hb d_Mo_perform_1 (by rw [hk1_22]; decide) (by rw [hk1_22]; decide) (by rw [hk1_22]; decide) rfl ?_
    refine lv_aload_n hx hb d_Mo_perform_319 rfl (lv_at hl 0 rfl) ?_
    refine lv_iload_n hx hb d_Mo_perform_320 rfl (lv_at hl 2 rfl) ?_
    refine lv_iload_n hx hb d_Mo_perform_321 rfl (lv_at hl 3 rfl) ?_
    obtain ⟨hi, hk⟩ := hk
    have hFc := nm_free hD hS hA
    refine va_callv (va_runV (As := [.int a2, .int a3]) (rest := []) ⟨hx, hb, hml, hown, hts⟩ (t_argument l G _ mo ad x a2 a3 hi) (cwV 2 hts (nn_gV mw_1152 mw_1149 mw_1151 mw_74 mw_94) rfl rfl rfl (by decide +kernel) ⟨Nat.le_of_ble_eq_true rfl, Nat.le_of_ble_eq_true rfl⟩) (nn_preV (va_recv hK hP rfl (q0 := 0) rfl) hP hD hK hN) rfl rfl hl.1 rfl (lv_room (Nat.le_of_ble_eq_true rfl)) d_Mo_perform_322 ⟨Nat.le_of_ble_eq_true rfl, Nat.le_of_ble_eq_true rfl⟩) hS (fun q _ h => hFc q h) hFc (fun u t H locs ht hvm hw hB hz1 hk1 hS => ?_)
    obtain ⟨hP1, hD1⟩ := hB
    rw [ht] at hP1
    have hP := hP1
    have hD := hD1.weaken (fun _ _ _ h => hFc _ h)
    refine lv_goto (tgt := 353) hx hb d_Mo_perform_325 rfl ?_
    have hR : m_perform x a1 a2 a3 = m_argument x a2 a3 := by rw [m_perform]; rw [if_neg hk1_0]; rw [if_neg hk1_1]; rw [if_neg hk1_2]; rw [if_neg hk1_3]; rw [if_neg hk1_4]; rw [if_neg hk1_5]; rw [if_neg hk1_6]; rw [if_neg hk1_7]; rw [if_neg hk1_8]; rw [if_neg hk1_9]; rw [if_neg hk1_10]; rw [if_neg hk1_11]; rw [if_neg hk1_12]; rw [if_neg hk1_13]; rw [if_neg hk1_14]; rw [if_neg hk1_15]; rw [if_neg hk1_16]; rw [if_neg hk1_17]; rw [if_neg hk1_18]; rw [if_neg hk1_19]; rw [if_neg hk1_20]; rw [if_neg hk1_21]; rw [if_pos hk1_22]
    refine nm_W1 hR ?_
    exact W.vret hx hb hr (fun t ht hW => ⟨⟨(), rfl, trivial, ⟨by rw [ht]; exact hP, hD⟩⟩, hS.F ht⟩) hS.2.2 d_Mo_perform_353
  by_cases hk1_23 : a1 = 23
  · skip
    have hk := (((((((((((((((((((((((hk.2 hk1_0).2 hk1_1).2 hk1_2).2 hk1_3).2 hk1_4).2 hk1_5).2 hk1_6).2 hk1_7).2 hk1_8).2 hk1_9).2 hk1_10).2 hk1_11).2 hk1_12).2 hk1_13).2 hk1_14).2 hk1_15).2 hk1_16).2 hk1_17).2 hk1_18).2 hk1_19).2 hk1_20).2 hk1_21).2 hk1_22).1 hk1_23
    refine lv_tableIn (off := 327) (tgt := 328) hx hb d_Mo_perform_1 (by rw [hk1_23]; decide) (by rw [hk1_23]; decide) (by rw [hk1_23]; decide) rfl ?_
    refine lv_aload_n hx hb d_Mo_perform_328 rfl (lv_at hl 0 rfl) ?_
    refine lv_iload_n hx hb d_Mo_perform_329 rfl (lv_at hl 2 rfl) ?_
    refine lv_bipush (v := 16) hx hb d_Mo_perform_330 (by decide) ?_
    refine lv_idiv hx hb d_Mo_perform_332 (by decide) ?_
    refine lv_iload_n hx hb d_Mo_perform_333 rfl (lv_at hl 2 rfl) ?_
    refine lv_bipush (v := 16) hx hb d_Mo_perform_334 (by decide) ?_
    refine lv_irem hx hb d_Mo_perform_336 (by decide) ?_
    refine lv_iload_n hx hb d_Mo_perform_337 rfl (lv_at hl 3 rfl) ?_
    obtain ⟨hi, hk⟩ := hk
    have hFc := nm_free hD hS hA
    refine va_calli (va_runV (As := [.int (a2 / 16), .int (a2 - a2 / 16 * 16), .int a3]) (rest := []) ⟨hx, hb, hml, hown, hts⟩ (t_emit l G _ mo ad x (a2 / 16) (a2 - a2 / 16 * 16) a3 hi) (cwV 3 hts (nn_gV mw_1060 mw_1057 mw_1059 mw_51 mw_94) rfl rfl rfl (by decide +kernel) ⟨Nat.le_of_ble_eq_true rfl, Nat.le_of_ble_eq_true rfl⟩) (nn_preV (va_recv hK hP rfl (q0 := 0) rfl) hP hD hK hN) rfl rfl hl.1 rfl (lv_room (Nat.le_of_ble_eq_true rfl)) d_Mo_perform_338 ⟨Nat.le_of_ble_eq_true rfl, Nat.le_of_ble_eq_true rfl⟩) hS (fun q _ h => hFc q h) hFc (fun r25 u t H locs ht hvm hw hB hz1 hk1 hS => ?_)
    subst hw
    obtain ⟨hP1, hD1⟩ := hB
    rw [ht] at hP1
    have hP := hP1
    have hD := hD1.weaken (fun _ _ _ h => hFc _ h)
    refine lv_istore (lv' := [(4, .int ((m_emit x (a2 / 16) (a2 - a2 / 16 * 16) a3).2)), (0, .ref mo), (1, .int a1), (2, .int a2), (3, .int a3)]) hx hb d_Mo_perform_341 hl (by decide) rfl (fun ls hl => ?_)
    refine lv_goto (tgt := 353) hx hb d_Mo_perform_343 rfl ?_
    have hR : m_perform x a1 a2 a3 = (m_emit x (a2 / 16) (a2 - a2 / 16 * 16) a3).1 := by rw [m_perform]; rw [if_neg hk1_0]; rw [if_neg hk1_1]; rw [if_neg hk1_2]; rw [if_neg hk1_3]; rw [if_neg hk1_4]; rw [if_neg hk1_5]; rw [if_neg hk1_6]; rw [if_neg hk1_7]; rw [if_neg hk1_8]; rw [if_neg hk1_9]; rw [if_neg hk1_10]; rw [if_neg hk1_11]; rw [if_neg hk1_12]; rw [if_neg hk1_13]; rw [if_neg hk1_14]; rw [if_neg hk1_15]; rw [if_neg hk1_16]; rw [if_neg hk1_17]; rw [if_neg hk1_18]; rw [if_neg hk1_19]; rw [if_neg hk1_20]; rw [if_neg hk1_21]; rw [if_neg hk1_22]; rw [if_pos hk1_23]
    refine nm_W1 hR ?_
    exact W.vret hx hb hr (fun t ht hW => ⟨⟨(), rfl, trivial, ⟨by rw [ht]; exact hP, hD⟩⟩, hS.F ht⟩) hS.2.2 d_Mo_perform_353
  have hk := ((((((((((((((((((((((((hk.2 hk1_0).2 hk1_1).2 hk1_2).2 hk1_3).2 hk1_4).2 hk1_5).2 hk1_6).2 hk1_7).2 hk1_8).2 hk1_9).2 hk1_10).2 hk1_11).2 hk1_12).2 hk1_13).2 hk1_14).2 hk1_15).2 hk1_16).2 hk1_17).2 hk1_18).2 hk1_19).2 hk1_20).2 hk1_21).2 hk1_22).2 hk1_23)
  refine lv_tableOut (tgt := 346) hx hb d_Mo_perform_1 (by have q0 := lv_neT hk1_0 (show (0 : Int32).toInt = 0 by decide); have q1 := lv_neT hk1_1 (show (1 : Int32).toInt = 1 by decide); have q2 := lv_neT hk1_2 (show (2 : Int32).toInt = 2 by decide); have q3 := lv_neT hk1_3 (show (3 : Int32).toInt = 3 by decide); have q4 := lv_neT hk1_4 (show (4 : Int32).toInt = 4 by decide); have q5 := lv_neT hk1_5 (show (5 : Int32).toInt = 5 by decide); have q6 := lv_neT hk1_6 (show (6 : Int32).toInt = 6 by decide); have q7 := lv_neT hk1_7 (show (7 : Int32).toInt = 7 by decide); have q8 := lv_neT hk1_8 (show (8 : Int32).toInt = 8 by decide); have q9 := lv_neT hk1_9 (show (9 : Int32).toInt = 9 by decide); have q10 := lv_neT hk1_10 (show (10 : Int32).toInt = 10 by decide); have q11 := lv_neT hk1_11 (show (11 : Int32).toInt = 11 by decide); have q12 := lv_neT hk1_12 (show (12 : Int32).toInt = 12 by decide); have q13 := lv_neT hk1_13 (show (13 : Int32).toInt = 13 by decide); have q14 := lv_neT hk1_14 (show (14 : Int32).toInt = 14 by decide); have q15 := lv_neT hk1_15 (show (15 : Int32).toInt = 15 by decide); have q16 := lv_neT hk1_16 (show (16 : Int32).toInt = 16 by decide); have q17 := lv_neT hk1_17 (show (17 : Int32).toInt = 17 by decide); have q18 := lv_neT hk1_18 (show (18 : Int32).toInt = 18 by decide); have q19 := lv_neT hk1_19 (show (19 : Int32).toInt = 19 by decide); have q20 := lv_neT hk1_20 (show (20 : Int32).toInt = 20 by decide); have q21 := lv_neT hk1_21 (show (21 : Int32).toInt = 21 by decide); have q22 := lv_neT hk1_22 (show (22 : Int32).toInt = 22 by decide); have q23 := lv_neT hk1_23 (show (23 : Int32).toInt = 23 by decide); omega) rfl ?_
  refine lv_aload_n hx hb d_Mo_perform_346 rfl (lv_at hl 0 rfl) ?_
  refine lv_iload_n hx hb d_Mo_perform_347 rfl (lv_at hl 1 rfl) ?_
  refine lv_iload_n hx hb d_Mo_perform_348 rfl (lv_at hl 2 rfl) ?_
  refine lv_iload_n hx hb d_Mo_perform_349 rfl (lv_at hl 3 rfl) ?_
  obtain ⟨hi, hk⟩ := hk
  have hFc := nm_free hD hS hA
  refine va_callv (va_runV (As := [.int a1, .int a2, .int a3]) (rest := []) ⟨hx, hb, hml, hown, hts⟩ (t_branches l G _ mo ad x a1 a2 a3 hi) (cwV 3 hts (nn_gV mw_1156 mw_1153 mw_1155 mw_75 mw_94) rfl rfl rfl (by decide +kernel) ⟨Nat.le_of_ble_eq_true rfl, Nat.le_of_ble_eq_true rfl⟩) (nn_preV (va_recv hK hP rfl (q0 := 0) rfl) hP hD hK hN) rfl rfl hl.1 rfl (lv_room (Nat.le_of_ble_eq_true rfl)) d_Mo_perform_350 ⟨Nat.le_of_ble_eq_true rfl, Nat.le_of_ble_eq_true rfl⟩) hS (fun q _ h => hFc q h) hFc (fun u t H locs ht hvm hw hB hz1 hk1 hS => ?_)
  obtain ⟨hP1, hD1⟩ := hB
  rw [ht] at hP1
  have hP := hP1
  have hD := hD1.weaken (fun _ _ _ h => hFc _ h)
  have hR : m_perform x a1 a2 a3 = m_branches x a1 a2 a3 := by rw [m_perform]; rw [if_neg hk1_0]; rw [if_neg hk1_1]; rw [if_neg hk1_2]; rw [if_neg hk1_3]; rw [if_neg hk1_4]; rw [if_neg hk1_5]; rw [if_neg hk1_6]; rw [if_neg hk1_7]; rw [if_neg hk1_8]; rw [if_neg hk1_9]; rw [if_neg hk1_10]; rw [if_neg hk1_11]; rw [if_neg hk1_12]; rw [if_neg hk1_13]; rw [if_neg hk1_14]; rw [if_neg hk1_15]; rw [if_neg hk1_16]; rw [if_neg hk1_17]; rw [if_neg hk1_18]; rw [if_neg hk1_19]; rw [if_neg hk1_20]; rw [if_neg hk1_21]; rw [if_neg hk1_22]; rw [if_neg hk1_23]
  refine nm_W1 hR ?_
  exact W.vret hx hb hr (fun t ht hW => ⟨⟨(), rfl, trivial, ⟨by rw [ht]; exact hP, hD⟩⟩, hS.F ht⟩) hS.2.2 d_Mo_perform_353

theorem mw_924 : (.fieldLink R_Mo 239 R_Mo "state" "I" : Cond) ∈ nn_gw := nn_at 924 (by decide +kernel) (by decide +kernel)
theorem mw_925 : (.fieldLink R_Mo 242 R_Mo "next" "I" : Cond) ∈ nn_gw := nn_at 925 (by decide +kernel) (by decide +kernel)
theorem mw_926 : (.fieldLink R_Mo 245 R_Mo "base" "I" : Cond) ∈ nn_gw := nn_at 926 (by decide +kernel) (by decide +kernel)
theorem mw_927 : (.fieldLink R_Mo 63 R_Mo "top" "I" : Cond) ∈ nn_gw := nn_at 927 (by decide +kernel) (by decide +kernel)
theorem mw_928 : (.fieldLink R_Mo 248 R_Mo "frames" "I" : Cond) ∈ nn_gw := nn_at 928 (by decide +kernel) (by decide +kernel)
theorem mw_929 : (.fieldLink R_Mo 251 R_Mo "told" "I" : Cond) ∈ nn_gw := nn_at 929 (by decide +kernel) (by decide +kernel)
theorem mw_930 : (.fieldLink R_Mo 66 R_Mo "cells" "[I" : Cond) ∈ nn_gw := nn_at 930 (by decide +kernel) (by decide +kernel)
theorem mw_931 : (.fieldLink R_Mo 69 R_Mo "written" "[I" : Cond) ∈ nn_gw := nn_at 931 (by decide +kernel) (by decide +kernel)
theorem d_Mo_forget_0 : decode b_Mo_forget 0 = .ok (.aload_n 0, 1) := by decide +kernel
theorem d_Mo_forget_1 : decode b_Mo_forget 1 = .ok (.iconst 0, 1) := by decide +kernel
theorem d_Mo_forget_2 : decode b_Mo_forget 2 = .ok (.putfield 239, 3) := by decide +kernel
theorem d_Mo_forget_5 : decode b_Mo_forget 5 = .ok (.aload_n 0, 1) := by decide +kernel
theorem d_Mo_forget_6 : decode b_Mo_forget 6 = .ok (.iconst 0, 1) := by decide +kernel
theorem d_Mo_forget_7 : decode b_Mo_forget 7 = .ok (.putfield 242, 3) := by decide +kernel
theorem d_Mo_forget_10 : decode b_Mo_forget 10 = .ok (.aload_n 0, 1) := by decide +kernel
theorem d_Mo_forget_11 : decode b_Mo_forget 11 = .ok (.iconst 0, 1) := by decide +kernel
theorem d_Mo_forget_12 : decode b_Mo_forget 12 = .ok (.putfield 245, 3) := by decide +kernel
theorem d_Mo_forget_15 : decode b_Mo_forget 15 = .ok (.aload_n 0, 1) := by decide +kernel
theorem d_Mo_forget_16 : decode b_Mo_forget 16 = .ok (.iconst (-1), 1) := by decide +kernel
theorem d_Mo_forget_17 : decode b_Mo_forget 17 = .ok (.putfield 63, 3) := by decide +kernel
theorem d_Mo_forget_20 : decode b_Mo_forget 20 = .ok (.aload_n 0, 1) := by decide +kernel
theorem d_Mo_forget_21 : decode b_Mo_forget 21 = .ok (.iconst 0, 1) := by decide +kernel
theorem d_Mo_forget_22 : decode b_Mo_forget 22 = .ok (.putfield 248, 3) := by decide +kernel
theorem d_Mo_forget_25 : decode b_Mo_forget 25 = .ok (.aload_n 0, 1) := by decide +kernel
theorem d_Mo_forget_26 : decode b_Mo_forget 26 = .ok (.iconst 0, 1) := by decide +kernel
theorem d_Mo_forget_27 : decode b_Mo_forget 27 = .ok (.putfield 251, 3) := by decide +kernel
theorem d_Mo_forget_30 : decode b_Mo_forget 30 = .ok (.iconst 0, 1) := by decide +kernel
theorem d_Mo_forget_31 : decode b_Mo_forget 31 = .ok (.istore_n 1, 1) := by decide +kernel
theorem d_Mo_forget_32 : decode b_Mo_forget 32 = .ok (.iload_n 1, 1) := by decide +kernel
theorem d_Mo_forget_33 : decode b_Mo_forget 33 = .ok (.sipush 200, 3) := by decide +kernel
theorem d_Mo_forget_36 : decode b_Mo_forget 36 = .ok (.if_icmp .ge 16, 3) := by decide +kernel
theorem d_Mo_forget_39 : decode b_Mo_forget 39 = .ok (.aload_n 0, 1) := by decide +kernel
theorem d_Mo_forget_40 : decode b_Mo_forget 40 = .ok (.getfield 66, 3) := by decide +kernel
theorem d_Mo_forget_43 : decode b_Mo_forget 43 = .ok (.iload_n 1, 1) := by decide +kernel
theorem d_Mo_forget_44 : decode b_Mo_forget 44 = .ok (.iconst 0, 1) := by decide +kernel
theorem d_Mo_forget_45 : decode b_Mo_forget 45 = .ok (.iastore, 1) := by decide +kernel
theorem d_Mo_forget_46 : decode b_Mo_forget 46 = .ok (.iinc 1 1, 3) := by decide +kernel
theorem d_Mo_forget_49 : decode b_Mo_forget 49 = .ok (.goto (-17), 3) := by decide +kernel
theorem d_Mo_forget_52 : decode b_Mo_forget 52 = .ok (.iconst 0, 1) := by decide +kernel
theorem d_Mo_forget_53 : decode b_Mo_forget 53 = .ok (.istore_n 1, 1) := by decide +kernel
theorem d_Mo_forget_54 : decode b_Mo_forget 54 = .ok (.iload_n 1, 1) := by decide +kernel
theorem d_Mo_forget_55 : decode b_Mo_forget 55 = .ok (.bipush 8, 2) := by decide +kernel
theorem d_Mo_forget_57 : decode b_Mo_forget 57 = .ok (.if_icmp .ge 16, 3) := by decide +kernel
theorem d_Mo_forget_60 : decode b_Mo_forget 60 = .ok (.aload_n 0, 1) := by decide +kernel
theorem d_Mo_forget_61 : decode b_Mo_forget 61 = .ok (.getfield 69, 3) := by decide +kernel
theorem d_Mo_forget_64 : decode b_Mo_forget 64 = .ok (.iload_n 1, 1) := by decide +kernel
theorem d_Mo_forget_65 : decode b_Mo_forget 65 = .ok (.iconst 0, 1) := by decide +kernel
theorem d_Mo_forget_66 : decode b_Mo_forget 66 = .ok (.iastore, 1) := by decide +kernel
theorem d_Mo_forget_67 : decode b_Mo_forget 67 = .ok (.iinc 1 1, 3) := by decide +kernel
theorem d_Mo_forget_70 : decode b_Mo_forget 70 = .ok (.goto (-16), 3) := by decide +kernel
theorem d_Mo_forget_73 : decode b_Mo_forget 73 = .ok (.return_, 1) := by decide +kernel

def k_forget_54 : Nat → nM → Int32 → nM
  | 0, x, v1 => x
  | n + 1, x, v1 => (if 8 ≤ v1 then x else k_forget_54 n (nm_a x 41 v1 0) (v1 + 1))
def p_forget_54 : Nat → nM → Int32 → Prop
  | 0, _, _ => False
  | n + 1, x, v1 => ((8 ≤ v1 → True) ∧ (¬ (8 ≤ v1) → vp_in v1 8 ∧ p_forget_54 n (nm_a x 41 v1 0) (v1 + 1)))
def k_forget_32 : Nat → nM → Int32 → nM
  | 0, x, v1 => x
  | n + 1, x, v1 => (if 200 ≤ v1 then k_forget_54 300 x 0 else k_forget_32 n (nm_a x 40 v1 0) (v1 + 1))
def p_forget_32 : Nat → nM → Int32 → Prop
  | 0, _, _ => False
  | n + 1, x, v1 => ((200 ≤ v1 → p_forget_54 300 x 0) ∧ (¬ (200 ≤ v1) → vp_in v1 200 ∧ p_forget_32 n (nm_a x 40 v1 0) (v1 + 1)))
def m_forget (x : nM)  : nM := k_forget_32 300 (nm_f (nm_f (nm_f (nm_f (nm_f (nm_f x 34 0) 35 0) 36 0) 37 (-1)) 38 0) 39 0) 0
def o_forget (x : nM)  : Prop := p_forget_32 300 (nm_f (nm_f (nm_f (nm_f (nm_f (nm_f x 34 0) 35 0) 36 0) 37 (-1)) 38 0) 39 0) 0
set_option maxHeartbeats 4000000 in
set_option maxRecDepth 100000 in
theorem t_forget (l : Launch) (G : nn_G) (sz : Nat) (mo : Nat) (ad : Nat → Nat) (x : nM)  (hk : o_forget x) : Met l y_Mo_forget w_Mo_forget ({ frames := 0, cells := 0, slots := 0, locals := 0 }) (nn_P G [.ref mo] (nm_W G mo ad x) sz) (nm_Qv G mo ad (m_forget x) (va_A (nm_W G mo ad x) sz)) 0 0 (va_A (nm_W G mo ad x) sz) := by
  refine Met.ofW (cc := b_Mo_forget) (maxL := 2) (ret := none) (by decide) rfl ?_
  intro p e s m args below meth c s₁ B hml hv
  obtain ⟨rfl, hsz, hP, hK, hD0, hN⟩ := hv
  have hx := B.exec
  have hb := B.bytes
  have hr := B.returns
  have hts := atoms_spec (ws := w_Mo_forget) B.pre
  have hg : ∀ w ∈ nn_gw, w.before _ s = true := fun w h => hts w (List.mem_cons_of_mem _ h)
  have hown : s.vm.findClass R_Mo = some m.cls := findClass_of_methodNamed B.named
  subst hsz
  have hD := hD0.self (sz := s.heap.size)
  generalize hAe : va_A (nm_W G mo ad x) s.heap.size = A at hD ⊢
  have hA : ∀ q : Nat, s.heap.size ≤ q → A q := fun q h => by rw [← hAe]; exact Or.inr h
  clear hAe
  have hS : va_S A s.heap s.heap [] := va_S.rf
  have hP : va_P G.1 nn_cls (nm_W G mo ad x) s.heap := hP
  have hl := lv_entry ([.ref mo]) (n := 2) (Nat.le_of_ble_eq_true rfl)
  rw [lg_entry_eq]
  generalize (lg_sl ([.ref mo]) ++ List.replicate (2 - (lg_sl ([.ref mo])).length) Slot.unset).toArray = ls at hl ⊢
  have hl : lv_has ls 2 [(0, .ref mo)] := hl
  have J54 : ∀ (n : Nat) (x : nM) (v1 : Int32) (ls : Array Slot) (H : Heap) (locs : List Loc), p_forget_54 n x v1 → lv_has ls 2 [(0, .ref mo), (1, .int v1)] → va_P G.1 nn_cls (nm_W G mo ad x) H → va_D A (nm_W G mo ad x) → va_S A s.heap H locs → W p l e (headSpec w_Mo_forget ({ frames := 0, cells := 0, slots := 0, locals := 0 })).room s m [.ref mo].toArray below meth c H locs 0 0 (MQ below (nm_Qv G mo ad (k_forget_54 n x v1) A) [.ref mo].toArray s 0 0 A) (F0 m 54 ls []) := by
    intro n
    induction n with
    | zero =>
      intro x v1 ls H locs hk
      exact (show False from hk).elim
    | succ n ih =>
      intro x v1 ls H locs hk hl hP hD hS
      unfold p_forget_54 at hk
      refine lv_iload_n hx hb d_Mo_forget_54 rfl (lv_at hl 1 rfl) ?_
      refine lv_bipush (v := 8) hx hb d_Mo_forget_55 (by decide) ?_
      refine lv_icmp_ge (tgt := 73) hx hb d_Mo_forget_57 rfl (fun hc57 => ?_) (fun hc57 => ?_)
      · skip
        have hk := hk.1 hc57
        have hR : k_forget_54 (n + 1) x v1 = x := by rw [k_forget_54]; rw [if_pos hc57]
        refine nm_W1 hR ?_
        exact W.vret hx hb hr (fun t ht hW => ⟨⟨(), rfl, trivial, ⟨by rw [ht]; exact hP, hD⟩⟩, hS.F ht⟩) hS.2.2 d_Mo_forget_73
      · skip
        have hk := hk.2 hc57
        refine lv_aload_n hx hb d_Mo_forget_60 rfl (lv_at hl 0 rfl) ?_
        refine nm_getA hx hb hg hown hK hP 41 (by decide) (by decide) (hg _ mw_931) d_Mo_forget_61 ?_
        refine lv_iload_n hx hb d_Mo_forget_64 rfl (lv_at hl 1 rfl) ?_
        refine lv_iconst (v := 0) hx hb d_Mo_forget_65 (by decide) ?_
        obtain ⟨hi, hk⟩ := hk
        refine nm_st hx hb hK hP hD hS 41 16 rfl (by decide) hi d_Mo_forget_66 (fun H locs hP hD hS => ?_)
        refine lv_iinc (k := 1) (v := v1 + 1) (lv' := [(1, .int (v1 + 1)), (0, .ref mo)]) hx hb d_Mo_forget_67 hl rfl (rfl) (by decide) rfl (fun ls hl => ?_)
        refine lv_goto (tgt := 54) hx hb d_Mo_forget_70 rfl ?_
        have hl := lv_sub (l' := [(0, .ref mo), (1, .int (v1 + 1))]) hl [1, 0] rfl
        have hR : k_forget_54 (n + 1) x v1 = k_forget_54 n (nm_a x 41 v1 0) (v1 + 1) := by rw [k_forget_54]; rw [if_neg hc57]
        exact nm_W1 hR (ih (nm_a x 41 v1 0) (v1 + 1) ls _ _ hk hl hP hD hS)
  have J32 : ∀ (n : Nat) (x : nM) (v1 : Int32) (ls : Array Slot) (H : Heap) (locs : List Loc), p_forget_32 n x v1 → lv_has ls 2 [(0, .ref mo), (1, .int v1)] → va_P G.1 nn_cls (nm_W G mo ad x) H → va_D A (nm_W G mo ad x) → va_S A s.heap H locs → W p l e (headSpec w_Mo_forget ({ frames := 0, cells := 0, slots := 0, locals := 0 })).room s m [.ref mo].toArray below meth c H locs 0 0 (MQ below (nm_Qv G mo ad (k_forget_32 n x v1) A) [.ref mo].toArray s 0 0 A) (F0 m 32 ls []) := by
    intro n
    induction n with
    | zero =>
      intro x v1 ls H locs hk
      exact (show False from hk).elim
    | succ n ih =>
      intro x v1 ls H locs hk hl hP hD hS
      unfold p_forget_32 at hk
      refine lv_iload_n hx hb d_Mo_forget_32 rfl (lv_at hl 1 rfl) ?_
      refine lv_sipush (v := 200) hx hb d_Mo_forget_33 (by decide) ?_
      refine lv_icmp_ge (tgt := 52) hx hb d_Mo_forget_36 rfl (fun hc36 => ?_) (fun hc36 => ?_)
      · skip
        have hk := hk.1 hc36
        refine lv_iconst (v := 0) hx hb d_Mo_forget_52 (by decide) ?_
        refine lv_istore_n (lv' := [(1, .int 0), (0, .ref mo)]) hx hb d_Mo_forget_53 rfl hl (by decide) rfl (fun ls hl => ?_)
        have hl := lv_sub (l' := [(0, .ref mo), (1, .int 0)]) hl [1, 0] rfl
        have hR : k_forget_32 (n + 1) x v1 = k_forget_54 300 x 0 := by rw [k_forget_32]; rw [if_pos hc36]
        exact nm_W1 hR (J54 300 x 0 ls _ _ hk hl hP hD hS)
      · skip
        have hk := hk.2 hc36
        refine lv_aload_n hx hb d_Mo_forget_39 rfl (lv_at hl 0 rfl) ?_
        refine nm_getA hx hb hg hown hK hP 40 (by decide) (by decide) (hg _ mw_930) d_Mo_forget_40 ?_
        refine lv_iload_n hx hb d_Mo_forget_43 rfl (lv_at hl 1 rfl) ?_
        refine lv_iconst (v := 0) hx hb d_Mo_forget_44 (by decide) ?_
        obtain ⟨hi, hk⟩ := hk
        refine nm_st hx hb hK hP hD hS 40 15 rfl (by decide) hi d_Mo_forget_45 (fun H locs hP hD hS => ?_)
        refine lv_iinc (k := 1) (v := v1 + 1) (lv' := [(1, .int (v1 + 1)), (0, .ref mo)]) hx hb d_Mo_forget_46 hl rfl (rfl) (by decide) rfl (fun ls hl => ?_)
        refine lv_goto (tgt := 32) hx hb d_Mo_forget_49 rfl ?_
        have hl := lv_sub (l' := [(0, .ref mo), (1, .int (v1 + 1))]) hl [1, 0] rfl
        have hR : k_forget_32 (n + 1) x v1 = k_forget_32 n (nm_a x 40 v1 0) (v1 + 1) := by rw [k_forget_32]; rw [if_neg hc36]
        exact nm_W1 hR (ih (nm_a x 40 v1 0) (v1 + 1) ls _ _ hk hl hP hD hS)
  unfold o_forget at hk
  refine lv_aload_n hx hb d_Mo_forget_0 rfl (lv_at hl 0 rfl) ?_
  refine lv_iconst (v := 0) hx hb d_Mo_forget_1 (by decide) ?_
  refine nm_put hx hb hg hown hK hP hD hS 34 (by decide) (by decide) (by decide) (hg _ mw_924) d_Mo_forget_2 (fun H locs hP hD hS => ?_)
  refine lv_aload_n hx hb d_Mo_forget_5 rfl (lv_at hl 0 rfl) ?_
  refine lv_iconst (v := 0) hx hb d_Mo_forget_6 (by decide) ?_
  refine nm_put hx hb hg hown hK hP hD hS 35 (by decide) (by decide) (by decide) (hg _ mw_925) d_Mo_forget_7 (fun H locs hP hD hS => ?_)
  refine lv_aload_n hx hb d_Mo_forget_10 rfl (lv_at hl 0 rfl) ?_
  refine lv_iconst (v := 0) hx hb d_Mo_forget_11 (by decide) ?_
  refine nm_put hx hb hg hown hK hP hD hS 36 (by decide) (by decide) (by decide) (hg _ mw_926) d_Mo_forget_12 (fun H locs hP hD hS => ?_)
  refine lv_aload_n hx hb d_Mo_forget_15 rfl (lv_at hl 0 rfl) ?_
  refine lv_iconst (v := (-1)) hx hb d_Mo_forget_16 (by decide) ?_
  refine nm_put hx hb hg hown hK hP hD hS 37 (by decide) (by decide) (by decide) (hg _ mw_927) d_Mo_forget_17 (fun H locs hP hD hS => ?_)
  refine lv_aload_n hx hb d_Mo_forget_20 rfl (lv_at hl 0 rfl) ?_
  refine lv_iconst (v := 0) hx hb d_Mo_forget_21 (by decide) ?_
  refine nm_put hx hb hg hown hK hP hD hS 38 (by decide) (by decide) (by decide) (hg _ mw_928) d_Mo_forget_22 (fun H locs hP hD hS => ?_)
  refine lv_aload_n hx hb d_Mo_forget_25 rfl (lv_at hl 0 rfl) ?_
  refine lv_iconst (v := 0) hx hb d_Mo_forget_26 (by decide) ?_
  refine nm_put hx hb hg hown hK hP hD hS 39 (by decide) (by decide) (by decide) (hg _ mw_929) d_Mo_forget_27 (fun H locs hP hD hS => ?_)
  refine lv_iconst (v := 0) hx hb d_Mo_forget_30 (by decide) ?_
  refine lv_istore_n (lv' := [(1, .int 0), (0, .ref mo)]) hx hb d_Mo_forget_31 rfl hl (by decide) rfl (fun ls hl => ?_)
  have hl := lv_sub (l' := [(0, .ref mo), (1, .int 0)]) hl [1, 0] rfl
  have hR : m_forget x = k_forget_32 300 (nm_f (nm_f (nm_f (nm_f (nm_f (nm_f x 34 0) 35 0) 36 0) 37 (-1)) 38 0) 39 0) 0 := by rw [m_forget]
  exact nm_W1 hR (J32 300 (nm_f (nm_f (nm_f (nm_f (nm_f (nm_f x 34 0) 35 0) 36 0) 37 (-1)) 38 0) 39 0) 0 ls _ _ hk hl hP hD hS)

theorem mw_49 : (.selects R_Mo y_Mo_perform y_Mo_perform : Cond) ∈ nn_gw := nn_at 49 (by decide +kernel) (by decide +kernel)
theorem mw_76 : (.selects R_Mo y_Mo_forget y_Mo_forget : Cond) ∈ nn_gw := nn_at 76 (by decide +kernel) (by decide +kernel)
theorem mw_890 : (.fieldLink R_Mo 72 R_Mo "thrown" "I" : Cond) ∈ nn_gw := nn_at 890 (by decide +kernel) (by decide +kernel)
theorem mw_899 : (.fieldLink R_Mo 13 R_Mo "latestError" "I" : Cond) ∈ nn_gw := nn_at 899 (by decide +kernel) (by decide +kernel)
theorem mw_900 : (.fieldLink R_Mo 17 R_Mo "latestPlace" "I" : Cond) ∈ nn_gw := nn_at 900 (by decide +kernel) (by decide +kernel)
theorem mw_919 : (.fieldLink R_Mo 229 R_Mo "size" "I" : Cond) ∈ nn_gw := nn_at 919 (by decide +kernel) (by decide +kernel)
theorem mw_920 : (.fieldLink R_Mo 54 R_Mo "op" "[I" : Cond) ∈ nn_gw := nn_at 920 (by decide +kernel) (by decide +kernel)
theorem mw_921 : (.fieldLink R_Mo 57 R_Mo "ofL" "[I" : Cond) ∈ nn_gw := nn_at 921 (by decide +kernel) (by decide +kernel)
theorem mw_922 : (.fieldLink R_Mo 60 R_Mo "ofA" "[I" : Cond) ∈ nn_gw := nn_at 922 (by decide +kernel) (by decide +kernel)
theorem mw_923 : (.fieldLink R_Mo 232 R_Mo "there" "Z" : Cond) ∈ nn_gw := nn_at 923 (by decide +kernel) (by decide +kernel)
theorem mw_1049 : (.methodLink R_Mo 226 y_Mo_perform : Cond) ∈ nn_gw := nn_at 1049 (by decide +kernel) (by decide +kernel)
theorem mw_1051 : (.instanceMethod y_Mo_perform : Cond) ∈ nn_gw := nn_at 1051 (by decide +kernel) (by decide +kernel)
set_option maxRecDepth 100000 in
theorem mw_1052 : (.code y_Mo_perform b_Mo_perform 5 none : Cond) ∈ nn_gw := nn_at 1052 (by rfl) (by decide +kernel)
theorem mw_1157 : (.methodLink R_Mo 236 y_Mo_forget : Cond) ∈ nn_gw := nn_at 1157 (by decide +kernel) (by decide +kernel)
theorem mw_1159 : (.instanceMethod y_Mo_forget : Cond) ∈ nn_gw := nn_at 1159 (by decide +kernel) (by decide +kernel)
set_option maxRecDepth 100000 in
theorem mw_1160 : (.code y_Mo_forget b_Mo_forget 2 none : Cond) ∈ nn_gw := nn_at 1160 (by rfl) (by decide +kernel)
theorem d_Mo_compile_0 : decode b_Mo_compile 0 = .ok (.aload_n 0, 1) := by decide +kernel
theorem d_Mo_compile_1 : decode b_Mo_compile 1 = .ok (.iconst 0, 1) := by decide +kernel
theorem d_Mo_compile_2 : decode b_Mo_compile 2 = .ok (.putfield 136, 3) := by decide +kernel
theorem d_Mo_compile_5 : decode b_Mo_compile 5 = .ok (.aload_n 0, 1) := by decide +kernel
theorem d_Mo_compile_6 : decode b_Mo_compile 6 = .ok (.iconst 0, 1) := by decide +kernel
theorem d_Mo_compile_7 : decode b_Mo_compile 7 = .ok (.putfield 124, 3) := by decide +kernel
theorem d_Mo_compile_10 : decode b_Mo_compile 10 = .ok (.aload_n 0, 1) := by decide +kernel
theorem d_Mo_compile_11 : decode b_Mo_compile 11 = .ok (.iconst 0, 1) := by decide +kernel
theorem d_Mo_compile_12 : decode b_Mo_compile 12 = .ok (.putfield 130, 3) := by decide +kernel
theorem d_Mo_compile_15 : decode b_Mo_compile 15 = .ok (.aload_n 0, 1) := by decide +kernel
theorem d_Mo_compile_16 : decode b_Mo_compile 16 = .ok (.iconst 3, 1) := by decide +kernel
theorem d_Mo_compile_17 : decode b_Mo_compile 17 = .ok (.putfield 142, 3) := by decide +kernel
theorem d_Mo_compile_20 : decode b_Mo_compile 20 = .ok (.aload_n 0, 1) := by decide +kernel
theorem d_Mo_compile_21 : decode b_Mo_compile 21 = .ok (.iconst 0, 1) := by decide +kernel
theorem d_Mo_compile_22 : decode b_Mo_compile 22 = .ok (.putfield 159, 3) := by decide +kernel
theorem d_Mo_compile_25 : decode b_Mo_compile 25 = .ok (.aload_n 0, 1) := by decide +kernel
theorem d_Mo_compile_26 : decode b_Mo_compile 26 = .ok (.iconst 0, 1) := by decide +kernel
theorem d_Mo_compile_27 : decode b_Mo_compile 27 = .ok (.putfield 139, 3) := by decide +kernel
theorem d_Mo_compile_30 : decode b_Mo_compile 30 = .ok (.aload_n 0, 1) := by decide +kernel
theorem d_Mo_compile_31 : decode b_Mo_compile 31 = .ok (.iconst 0, 1) := by decide +kernel
theorem d_Mo_compile_32 : decode b_Mo_compile 32 = .ok (.putfield 133, 3) := by decide +kernel
theorem d_Mo_compile_35 : decode b_Mo_compile 35 = .ok (.aload_n 0, 1) := by decide +kernel
theorem d_Mo_compile_36 : decode b_Mo_compile 36 = .ok (.iconst 0, 1) := by decide +kernel
theorem d_Mo_compile_37 : decode b_Mo_compile 37 = .ok (.putfield 111, 3) := by decide +kernel
theorem d_Mo_compile_40 : decode b_Mo_compile 40 = .ok (.aload_n 0, 1) := by decide +kernel
theorem d_Mo_compile_41 : decode b_Mo_compile 41 = .ok (.iconst 4, 1) := by decide +kernel
theorem d_Mo_compile_42 : decode b_Mo_compile 42 = .ok (.iconst 0, 1) := by decide +kernel
theorem d_Mo_compile_43 : decode b_Mo_compile 43 = .ok (.iconst 0, 1) := by decide +kernel
theorem d_Mo_compile_44 : decode b_Mo_compile 44 = .ok (.invokevirtual 162, 3) := by decide +kernel
theorem d_Mo_compile_47 : decode b_Mo_compile 47 = .ok (.aload_n 0, 1) := by decide +kernel
theorem d_Mo_compile_48 : decode b_Mo_compile 48 = .ok (.iconst 0, 1) := by decide +kernel
theorem d_Mo_compile_49 : decode b_Mo_compile 49 = .ok (.iconst 0, 1) := by decide +kernel
theorem d_Mo_compile_50 : decode b_Mo_compile 50 = .ok (.iconst 0, 1) := by decide +kernel
theorem d_Mo_compile_51 : decode b_Mo_compile 51 = .ok (.invokevirtual 162, 3) := by decide +kernel
theorem d_Mo_compile_54 : decode b_Mo_compile 54 = .ok (.aload_n 0, 1) := by decide +kernel
theorem d_Mo_compile_55 : decode b_Mo_compile 55 = .ok (.iconst 0, 1) := by decide +kernel
theorem d_Mo_compile_56 : decode b_Mo_compile 56 = .ok (.invokevirtual 107, 3) := by decide +kernel
theorem d_Mo_compile_59 : decode b_Mo_compile 59 = .ok (.iconst 0, 1) := by decide +kernel
theorem d_Mo_compile_60 : decode b_Mo_compile 60 = .ok (.istore_n 1, 1) := by decide +kernel
theorem d_Mo_compile_61 : decode b_Mo_compile 61 = .ok (.iload_n 1, 1) := by decide +kernel
theorem d_Mo_compile_62 : decode b_Mo_compile 62 = .ok (.sipush 5000, 3) := by decide +kernel
theorem d_Mo_compile_65 : decode b_Mo_compile 65 = .ok (.if_icmp .ge 64, 3) := by decide +kernel
theorem d_Mo_compile_68 : decode b_Mo_compile 68 = .ok (.aload_n 0, 1) := by decide +kernel
theorem d_Mo_compile_69 : decode b_Mo_compile 69 = .ok (.getfield 136, 3) := by decide +kernel
theorem d_Mo_compile_72 : decode b_Mo_compile 72 = .ok (.ifCond .le 57, 3) := by decide +kernel
theorem d_Mo_compile_75 : decode b_Mo_compile 75 = .ok (.aload_n 0, 1) := by decide +kernel
theorem d_Mo_compile_76 : decode b_Mo_compile 76 = .ok (.getfield 111, 3) := by decide +kernel
theorem d_Mo_compile_79 : decode b_Mo_compile 79 = .ok (.ifCond .ne 50, 3) := by decide +kernel
theorem d_Mo_compile_82 : decode b_Mo_compile 82 = .ok (.aload_n 0, 1) := by decide +kernel
theorem d_Mo_compile_83 : decode b_Mo_compile 83 = .ok (.dup, 1) := by decide +kernel
theorem d_Mo_compile_84 : decode b_Mo_compile 84 = .ok (.getfield 136, 3) := by decide +kernel
theorem d_Mo_compile_87 : decode b_Mo_compile 87 = .ok (.iconst 1, 1) := by decide +kernel
theorem d_Mo_compile_88 : decode b_Mo_compile 88 = .ok (.isub, 1) := by decide +kernel
theorem d_Mo_compile_89 : decode b_Mo_compile 89 = .ok (.putfield 136, 3) := by decide +kernel
theorem d_Mo_compile_92 : decode b_Mo_compile 92 = .ok (.aload_n 0, 1) := by decide +kernel
theorem d_Mo_compile_93 : decode b_Mo_compile 93 = .ok (.aload_n 0, 1) := by decide +kernel
theorem d_Mo_compile_94 : decode b_Mo_compile 94 = .ok (.getfield 20, 3) := by decide +kernel
theorem d_Mo_compile_97 : decode b_Mo_compile 97 = .ok (.aload_n 0, 1) := by decide +kernel
theorem d_Mo_compile_98 : decode b_Mo_compile 98 = .ok (.getfield 136, 3) := by decide +kernel
theorem d_Mo_compile_101 : decode b_Mo_compile 101 = .ok (.iaload, 1) := by decide +kernel
theorem d_Mo_compile_102 : decode b_Mo_compile 102 = .ok (.aload_n 0, 1) := by decide +kernel
theorem d_Mo_compile_103 : decode b_Mo_compile 103 = .ok (.getfield 24, 3) := by decide +kernel
theorem d_Mo_compile_106 : decode b_Mo_compile 106 = .ok (.aload_n 0, 1) := by decide +kernel
theorem d_Mo_compile_107 : decode b_Mo_compile 107 = .ok (.getfield 136, 3) := by decide +kernel
theorem d_Mo_compile_110 : decode b_Mo_compile 110 = .ok (.iaload, 1) := by decide +kernel
theorem d_Mo_compile_111 : decode b_Mo_compile 111 = .ok (.aload_n 0, 1) := by decide +kernel
theorem d_Mo_compile_112 : decode b_Mo_compile 112 = .ok (.getfield 27, 3) := by decide +kernel
theorem d_Mo_compile_115 : decode b_Mo_compile 115 = .ok (.aload_n 0, 1) := by decide +kernel
theorem d_Mo_compile_116 : decode b_Mo_compile 116 = .ok (.getfield 136, 3) := by decide +kernel
theorem d_Mo_compile_119 : decode b_Mo_compile 119 = .ok (.iaload, 1) := by decide +kernel
theorem d_Mo_compile_120 : decode b_Mo_compile 120 = .ok (.invokevirtual 226, 3) := by decide +kernel
theorem d_Mo_compile_123 : decode b_Mo_compile 123 = .ok (.iinc 1 1, 3) := by decide +kernel
theorem d_Mo_compile_126 : decode b_Mo_compile 126 = .ok (.goto (-65), 3) := by decide +kernel
theorem d_Mo_compile_129 : decode b_Mo_compile 129 = .ok (.aload_n 0, 1) := by decide +kernel
theorem d_Mo_compile_130 : decode b_Mo_compile 130 = .ok (.iconst 0, 1) := by decide +kernel
theorem d_Mo_compile_131 : decode b_Mo_compile 131 = .ok (.putfield 75, 3) := by decide +kernel
theorem d_Mo_compile_134 : decode b_Mo_compile 134 = .ok (.aload_n 0, 1) := by decide +kernel
theorem d_Mo_compile_135 : decode b_Mo_compile 135 = .ok (.aload_n 0, 1) := by decide +kernel
theorem d_Mo_compile_136 : decode b_Mo_compile 136 = .ok (.getfield 111, 3) := by decide +kernel
theorem d_Mo_compile_139 : decode b_Mo_compile 139 = .ok (.ifCond .le 7, 3) := by decide +kernel
theorem d_Mo_compile_142 : decode b_Mo_compile 142 = .ok (.iconst 1, 1) := by decide +kernel
theorem d_Mo_compile_143 : decode b_Mo_compile 143 = .ok (.goto 4, 3) := by decide +kernel
theorem d_Mo_compile_146 : decode b_Mo_compile 146 = .ok (.iconst 0, 1) := by decide +kernel
theorem d_Mo_compile_147 : decode b_Mo_compile 147 = .ok (.putfield 72, 3) := by decide +kernel
theorem d_Mo_compile_150 : decode b_Mo_compile 150 = .ok (.aload_n 0, 1) := by decide +kernel
theorem d_Mo_compile_151 : decode b_Mo_compile 151 = .ok (.aload_n 0, 1) := by decide +kernel
theorem d_Mo_compile_152 : decode b_Mo_compile 152 = .ok (.getfield 111, 3) := by decide +kernel
theorem d_Mo_compile_155 : decode b_Mo_compile 155 = .ok (.ifCond .le 10, 3) := by decide +kernel
theorem d_Mo_compile_158 : decode b_Mo_compile 158 = .ok (.aload_n 0, 1) := by decide +kernel
theorem d_Mo_compile_159 : decode b_Mo_compile 159 = .ok (.getfield 111, 3) := by decide +kernel
theorem d_Mo_compile_162 : decode b_Mo_compile 162 = .ok (.goto 4, 3) := by decide +kernel
theorem d_Mo_compile_165 : decode b_Mo_compile 165 = .ok (.iconst (-1), 1) := by decide +kernel
theorem d_Mo_compile_166 : decode b_Mo_compile 166 = .ok (.putfield 13, 3) := by decide +kernel
theorem d_Mo_compile_169 : decode b_Mo_compile 169 = .ok (.aload_n 0, 1) := by decide +kernel
theorem d_Mo_compile_170 : decode b_Mo_compile 170 = .ok (.aload_n 0, 1) := by decide +kernel
theorem d_Mo_compile_171 : decode b_Mo_compile 171 = .ok (.getfield 111, 3) := by decide +kernel
theorem d_Mo_compile_174 : decode b_Mo_compile 174 = .ok (.ifCond .le 10, 3) := by decide +kernel
theorem d_Mo_compile_177 : decode b_Mo_compile 177 = .ok (.aload_n 0, 1) := by decide +kernel
theorem d_Mo_compile_178 : decode b_Mo_compile 178 = .ok (.getfield 114, 3) := by decide +kernel
theorem d_Mo_compile_181 : decode b_Mo_compile 181 = .ok (.goto 4, 3) := by decide +kernel
theorem d_Mo_compile_184 : decode b_Mo_compile 184 = .ok (.iconst (-1), 1) := by decide +kernel
theorem d_Mo_compile_185 : decode b_Mo_compile 185 = .ok (.putfield 17, 3) := by decide +kernel
theorem d_Mo_compile_188 : decode b_Mo_compile 188 = .ok (.aload_n 0, 1) := by decide +kernel
theorem d_Mo_compile_189 : decode b_Mo_compile 189 = .ok (.getfield 111, 3) := by decide +kernel
theorem d_Mo_compile_192 : decode b_Mo_compile 192 = .ok (.ifCond .le 5, 3) := by decide +kernel
theorem d_Mo_compile_195 : decode b_Mo_compile 195 = .ok (.iconst 0, 1) := by decide +kernel
theorem d_Mo_compile_196 : decode b_Mo_compile 196 = .ok (.ireturn, 1) := by decide +kernel
theorem d_Mo_compile_197 : decode b_Mo_compile 197 = .ok (.aload_n 0, 1) := by decide +kernel
theorem d_Mo_compile_198 : decode b_Mo_compile 198 = .ok (.aload_n 0, 1) := by decide +kernel
theorem d_Mo_compile_199 : decode b_Mo_compile 199 = .ok (.getfield 133, 3) := by decide +kernel
theorem d_Mo_compile_202 : decode b_Mo_compile 202 = .ok (.putfield 229, 3) := by decide +kernel
theorem d_Mo_compile_205 : decode b_Mo_compile 205 = .ok (.iconst 0, 1) := by decide +kernel
theorem d_Mo_compile_206 : decode b_Mo_compile 206 = .ok (.istore_n 1, 1) := by decide +kernel
theorem d_Mo_compile_207 : decode b_Mo_compile 207 = .ok (.iload_n 1, 1) := by decide +kernel
theorem d_Mo_compile_208 : decode b_Mo_compile 208 = .ok (.aload_n 0, 1) := by decide +kernel
theorem d_Mo_compile_209 : decode b_Mo_compile 209 = .ok (.getfield 133, 3) := by decide +kernel
theorem d_Mo_compile_212 : decode b_Mo_compile 212 = .ok (.if_icmp .ge 45, 3) := by decide +kernel
theorem d_Mo_compile_215 : decode b_Mo_compile 215 = .ok (.aload_n 0, 1) := by decide +kernel
theorem d_Mo_compile_216 : decode b_Mo_compile 216 = .ok (.getfield 54, 3) := by decide +kernel
theorem d_Mo_compile_219 : decode b_Mo_compile 219 = .ok (.iload_n 1, 1) := by decide +kernel
theorem d_Mo_compile_220 : decode b_Mo_compile 220 = .ok (.aload_n 0, 1) := by decide +kernel
theorem d_Mo_compile_221 : decode b_Mo_compile 221 = .ok (.getfield 45, 3) := by decide +kernel
theorem d_Mo_compile_224 : decode b_Mo_compile 224 = .ok (.iload_n 1, 1) := by decide +kernel
theorem d_Mo_compile_225 : decode b_Mo_compile 225 = .ok (.iaload, 1) := by decide +kernel
theorem d_Mo_compile_226 : decode b_Mo_compile 226 = .ok (.iastore, 1) := by decide +kernel
theorem d_Mo_compile_227 : decode b_Mo_compile 227 = .ok (.aload_n 0, 1) := by decide +kernel
theorem d_Mo_compile_228 : decode b_Mo_compile 228 = .ok (.getfield 57, 3) := by decide +kernel
theorem d_Mo_compile_231 : decode b_Mo_compile 231 = .ok (.iload_n 1, 1) := by decide +kernel
theorem d_Mo_compile_232 : decode b_Mo_compile 232 = .ok (.aload_n 0, 1) := by decide +kernel
theorem d_Mo_compile_233 : decode b_Mo_compile 233 = .ok (.getfield 48, 3) := by decide +kernel
theorem d_Mo_compile_236 : decode b_Mo_compile 236 = .ok (.iload_n 1, 1) := by decide +kernel
theorem d_Mo_compile_237 : decode b_Mo_compile 237 = .ok (.iaload, 1) := by decide +kernel
theorem d_Mo_compile_238 : decode b_Mo_compile 238 = .ok (.iastore, 1) := by decide +kernel
theorem d_Mo_compile_239 : decode b_Mo_compile 239 = .ok (.aload_n 0, 1) := by decide +kernel
theorem d_Mo_compile_240 : decode b_Mo_compile 240 = .ok (.getfield 60, 3) := by decide +kernel
theorem d_Mo_compile_243 : decode b_Mo_compile 243 = .ok (.iload_n 1, 1) := by decide +kernel
theorem d_Mo_compile_244 : decode b_Mo_compile 244 = .ok (.aload_n 0, 1) := by decide +kernel
theorem d_Mo_compile_245 : decode b_Mo_compile 245 = .ok (.getfield 51, 3) := by decide +kernel
theorem d_Mo_compile_248 : decode b_Mo_compile 248 = .ok (.iload_n 1, 1) := by decide +kernel
theorem d_Mo_compile_249 : decode b_Mo_compile 249 = .ok (.iaload, 1) := by decide +kernel
theorem d_Mo_compile_250 : decode b_Mo_compile 250 = .ok (.iastore, 1) := by decide +kernel
theorem d_Mo_compile_251 : decode b_Mo_compile 251 = .ok (.iinc 1 1, 3) := by decide +kernel
theorem d_Mo_compile_254 : decode b_Mo_compile 254 = .ok (.goto (-47), 3) := by decide +kernel
theorem d_Mo_compile_257 : decode b_Mo_compile 257 = .ok (.aload_n 0, 1) := by decide +kernel
theorem d_Mo_compile_258 : decode b_Mo_compile 258 = .ok (.iconst 1, 1) := by decide +kernel
theorem d_Mo_compile_259 : decode b_Mo_compile 259 = .ok (.putfield 232, 3) := by decide +kernel
theorem d_Mo_compile_262 : decode b_Mo_compile 262 = .ok (.aload_n 0, 1) := by decide +kernel
theorem d_Mo_compile_263 : decode b_Mo_compile 263 = .ok (.invokevirtual 236, 3) := by decide +kernel
theorem d_Mo_compile_266 : decode b_Mo_compile 266 = .ok (.aload_n 0, 1) := by decide +kernel
theorem d_Mo_compile_267 : decode b_Mo_compile 267 = .ok (.getfield 229, 3) := by decide +kernel
theorem d_Mo_compile_270 : decode b_Mo_compile 270 = .ok (.ireturn, 1) := by decide +kernel

def k_compile_207 : Nat → nM → Int32 → nM × Int32
  | 0, x, v1 => (x, 0)
  | n + 1, x, v1 => (if x.1 25 ≤ v1 then (m_forget (nm_f x 33 1), (m_forget (nm_f x 33 1)).1 29) else k_compile_207 n (nm_a (nm_a (nm_a x 30 v1 (nm_g x 26 v1)) 31 v1 (nm_g x 27 v1)) 32 v1 (nm_g x 28 v1)) (v1 + 1))
def p_compile_207 : Nat → nM → Int32 → Prop
  | 0, _, _ => False
  | n + 1, x, v1 => ((x.1 25 ≤ v1 → o_forget (nm_f x 33 1) ∧ True) ∧ (¬ (x.1 25 ≤ v1) → vp_in v1 400 ∧ vp_in v1 400 ∧ vp_in v1 400 ∧ vp_in v1 400 ∧ vp_in v1 400 ∧ vp_in v1 400 ∧ p_compile_207 n (nm_a (nm_a (nm_a x 30 v1 (nm_g x 26 v1)) 31 v1 (nm_g x 27 v1)) 32 v1 (nm_g x 28 v1)) (v1 + 1)))
def k_compile_185 (x : nM) (w0 : Int32) : nM × Int32 := (if x.1 7 ≤ 0 then k_compile_207 401 (nm_f (nm_f x 10 w0) 29 (x.1 25)) 0 else (nm_f x 10 w0, 0))
def p_compile_185 (x : nM) (w0 : Int32) : Prop := ((x.1 7 ≤ 0 → p_compile_207 401 (nm_f (nm_f x 10 w0) 29 (x.1 25)) 0) ∧ (¬ (x.1 7 ≤ 0) → True))
def k_compile_166 (x : nM) (w0 : Int32) : nM × Int32 := (if x.1 7 ≤ 0 then k_compile_185 (nm_f x 9 w0) (-1) else k_compile_185 (nm_f x 9 w0) (x.1 8))
def p_compile_166 (x : nM) (w0 : Int32) : Prop := ((x.1 7 ≤ 0 → p_compile_185 (nm_f x 9 w0) (-1)) ∧ (¬ (x.1 7 ≤ 0) → p_compile_185 (nm_f x 9 w0) (x.1 8)))
def k_compile_147 (x : nM) (w0 : Int32) : nM × Int32 := (if x.1 7 ≤ 0 then k_compile_166 (nm_f x 0 w0) (-1) else k_compile_166 (nm_f x 0 w0) (x.1 7))
def p_compile_147 (x : nM) (w0 : Int32) : Prop := ((x.1 7 ≤ 0 → p_compile_166 (nm_f x 0 w0) (-1)) ∧ (¬ (x.1 7 ≤ 0) → p_compile_166 (nm_f x 0 w0) (x.1 7)))
def k_compile_129 (x : nM)  : nM × Int32 := (if x.1 7 ≤ 0 then k_compile_147 (nm_f x 1 0) 0 else k_compile_147 (nm_f x 1 0) 1)
def p_compile_129 (x : nM)  : Prop := ((x.1 7 ≤ 0 → p_compile_147 (nm_f x 1 0) 0) ∧ (¬ (x.1 7 ≤ 0) → p_compile_147 (nm_f x 1 0) 1))
def k_compile_61 : Nat → nM → Int32 → nM × Int32
  | 0, x, v1 => (x, 0)
  | n + 1, x, v1 => (if 5000 ≤ v1 then k_compile_129 x else (if x.1 11 ≤ 0 then k_compile_129 x else (if x.1 7 = 0 then k_compile_61 n (m_perform (nm_f x 11 ((x.1 11) - 1)) (nm_g x 12 ((x.1 11) - 1)) (nm_g x 13 ((x.1 11) - 1)) (nm_g x 14 ((x.1 11) - 1))) (v1 + 1) else k_compile_129 x)))
def p_compile_61 : Nat → nM → Int32 → Prop
  | 0, _, _ => False
  | n + 1, x, v1 => ((5000 ≤ v1 → p_compile_129 x) ∧ (¬ (5000 ≤ v1) → ((x.1 11 ≤ 0 → p_compile_129 x) ∧ (¬ (x.1 11 ≤ 0) → ((x.1 7 = 0 → vp_in ((x.1 11) - 1) 260 ∧ vp_in ((x.1 11) - 1) 260 ∧ vp_in ((x.1 11) - 1) 260 ∧ o_perform (nm_f x 11 ((x.1 11) - 1)) (nm_g x 12 ((x.1 11) - 1)) (nm_g x 13 ((x.1 11) - 1)) (nm_g x 14 ((x.1 11) - 1)) ∧ p_compile_61 n (m_perform (nm_f x 11 ((x.1 11) - 1)) (nm_g x 12 ((x.1 11) - 1)) (nm_g x 13 ((x.1 11) - 1)) (nm_g x 14 ((x.1 11) - 1))) (v1 + 1)) ∧ (¬ (x.1 7 = 0) → p_compile_129 x))))))
def m_compile (x : nM)  : nM × Int32 := k_compile_61 5001 (m_look (m_push (m_push (nm_f (nm_f (nm_f (nm_f (nm_f (nm_f (nm_f (nm_f x 11 0) 15 0) 21 0) 22 3) 23 0) 24 0) 25 0) 7 0) 4 0 0) 0 0 0) 0) 0
def o_compile (x : nM)  : Prop := o_push (nm_f (nm_f (nm_f (nm_f (nm_f (nm_f (nm_f (nm_f x 11 0) 15 0) 21 0) 22 3) 23 0) 24 0) 25 0) 7 0) 4 0 0 ∧ o_push (m_push (nm_f (nm_f (nm_f (nm_f (nm_f (nm_f (nm_f (nm_f x 11 0) 15 0) 21 0) 22 3) 23 0) 24 0) 25 0) 7 0) 4 0 0) 0 0 0 ∧ o_look (m_push (m_push (nm_f (nm_f (nm_f (nm_f (nm_f (nm_f (nm_f (nm_f x 11 0) 15 0) 21 0) 22 3) 23 0) 24 0) 25 0) 7 0) 4 0 0) 0 0 0) 0 ∧ p_compile_61 5001 (m_look (m_push (m_push (nm_f (nm_f (nm_f (nm_f (nm_f (nm_f (nm_f (nm_f x 11 0) 15 0) 21 0) 22 3) 23 0) 24 0) 25 0) 7 0) 4 0 0) 0 0 0) 0) 0
set_option maxHeartbeats 4000000 in
set_option maxRecDepth 100000 in
theorem t_compile (l : Launch) (G : nn_G) (sz : Nat) (mo : Nat) (ad : Nat → Nat) (x : nM)  (hk : o_compile x) : Met l y_Mo_compile w_Mo_compile ({ frames := 8, cells := 0, slots := 0, locals := 173 }) (nn_P G [.ref mo] (nm_W G mo ad x) sz) (nm_Qi G mo ad (m_compile x) (va_A (nm_W G mo ad x) sz)) 0 0 (va_A (nm_W G mo ad x) sz) := by
  refine Met.ofW (cc := b_Mo_compile) (maxL := 2) (ret := some .int) (by decide) rfl ?_
  intro p e s m args below meth c s₁ B hml hv
  obtain ⟨rfl, hsz, hP, hK, hD0, hN⟩ := hv
  have hx := B.exec
  have hb := B.bytes
  have hr := B.returns
  have hts := atoms_spec (ws := w_Mo_compile) B.pre
  have hg : ∀ w ∈ nn_gw, w.before _ s = true := fun w h => hts w (List.mem_cons_of_mem _ h)
  have hown : s.vm.findClass R_Mo = some m.cls := findClass_of_methodNamed B.named
  subst hsz
  have hD := hD0.self (sz := s.heap.size)
  generalize hAe : va_A (nm_W G mo ad x) s.heap.size = A at hD ⊢
  have hA : ∀ q : Nat, s.heap.size ≤ q → A q := fun q h => by rw [← hAe]; exact Or.inr h
  clear hAe
  have hS : va_S A s.heap s.heap [] := va_S.rf
  have hP : va_P G.1 nn_cls (nm_W G mo ad x) s.heap := hP
  have hl := lv_entry ([.ref mo]) (n := 2) (Nat.le_of_ble_eq_true rfl)
  rw [lg_entry_eq]
  generalize (lg_sl ([.ref mo]) ++ List.replicate (2 - (lg_sl ([.ref mo])).length) Slot.unset).toArray = ls at hl ⊢
  have hl : lv_has ls 2 [(0, .ref mo)] := hl
  have J207 : ∀ (n : Nat) (x : nM) (v1 : Int32) (ls : Array Slot) (H : Heap) (locs : List Loc), p_compile_207 n x v1 → lv_has ls 2 [(0, .ref mo), (1, .int v1)] → va_P G.1 nn_cls (nm_W G mo ad x) H → va_D A (nm_W G mo ad x) → va_S A s.heap H locs → W p l e (headSpec w_Mo_compile ({ frames := 8, cells := 0, slots := 0, locals := 173 })).room s m [.ref mo].toArray below meth c H locs 0 0 (MQ below (nm_Qi G mo ad (k_compile_207 n x v1) A) [.ref mo].toArray s 0 0 A) (F0 m 207 ls []) := by
    intro n
    induction n with
    | zero =>
      intro x v1 ls H locs hk
      exact (show False from hk).elim
    | succ n ih =>
      intro x v1 ls H locs hk hl hP hD hS
      unfold p_compile_207 at hk
      refine lv_iload_n hx hb d_Mo_compile_207 rfl (lv_at hl 1 rfl) ?_
      refine lv_aload_n hx hb d_Mo_compile_208 rfl (lv_at hl 0 rfl) ?_
      refine nm_get hx hb hg hown hK hP 25 (by decide) (by decide) (hg _ mw_915) d_Mo_compile_209 ?_
      refine lv_icmp_ge (tgt := 257) hx hb d_Mo_compile_212 rfl (fun hc212 => ?_) (fun hc212 => ?_)
      · skip
        have hk := hk.1 hc212
        refine lv_aload_n hx hb d_Mo_compile_257 rfl (lv_at hl 0 rfl) ?_
        refine lv_iconst (v := 1) hx hb d_Mo_compile_258 (by decide) ?_
        refine nm_putB hx hb hg hown hK hP hD hS (hg _ mw_923) d_Mo_compile_259 (fun H locs hP hD hS => ?_)
        refine lv_aload_n hx hb d_Mo_compile_262 rfl (lv_at hl 0 rfl) ?_
        obtain ⟨hi, hk⟩ := hk
        have hFc := nm_free hD hS hA
        refine va_callv (va_runV (As := []) (rest := []) ⟨hx, hb, hml, hown, hts⟩ (t_forget l G _ mo ad (nm_f x 33 1) hi) (cwV 0 hts (nn_gV mw_1160 mw_1157 mw_1159 mw_76 mw_94) rfl rfl rfl (by decide +kernel) ⟨Nat.le_of_ble_eq_true rfl, Nat.le_of_ble_eq_true rfl⟩) (nn_preV (va_recv hK hP rfl (q0 := 0) rfl) hP hD hK hN) rfl rfl hl.1 rfl (lv_room (Nat.le_of_ble_eq_true rfl)) d_Mo_compile_263 ⟨Nat.le_of_ble_eq_true rfl, Nat.le_of_ble_eq_true rfl⟩) hS (fun q _ h => hFc q h) hFc (fun u t H locs ht hvm hw hB hz1 hk1 hS => ?_)
        obtain ⟨hP1, hD1⟩ := hB
        rw [ht] at hP1
        have hP := hP1
        have hD := hD1.weaken (fun _ _ _ h => hFc _ h)
        refine lv_aload_n hx hb d_Mo_compile_266 rfl (lv_at hl 0 rfl) ?_
        refine nm_get hx hb hg hown hK hP 29 (by decide) (by decide) (hg _ mw_919) d_Mo_compile_267 ?_
        have hR : k_compile_207 (n + 1) x v1 = (m_forget (nm_f x 33 1), (m_forget (nm_f x 33 1)).1 29) := by rw [k_compile_207]; rw [if_pos hc212]
        refine nm_W2 hR ?_
        exact W.iret (v := (m_forget (nm_f x 33 1)).1 29) hx hb hr (fun t ht hW => ⟨⟨(m_forget (nm_f x 33 1)).1 29, (), rfl, rfl, ⟨by rw [ht]; exact hP, hD⟩⟩, hS.F ht⟩) hS.2.2 d_Mo_compile_270
      · skip
        have hk := hk.2 hc212
        refine lv_aload_n hx hb d_Mo_compile_215 rfl (lv_at hl 0 rfl) ?_
        refine nm_getA hx hb hg hown hK hP 30 (by decide) (by decide) (hg _ mw_920) d_Mo_compile_216 ?_
        refine lv_iload_n hx hb d_Mo_compile_219 rfl (lv_at hl 1 rfl) ?_
        refine lv_aload_n hx hb d_Mo_compile_220 rfl (lv_at hl 0 rfl) ?_
        refine nm_getA hx hb hg hown hK hP 26 (by decide) (by decide) (hg _ mw_916) d_Mo_compile_221 ?_
        refine lv_iload_n hx hb d_Mo_compile_224 rfl (lv_at hl 1 rfl) ?_
        obtain ⟨hi, hk⟩ := hk
        refine nm_ld hx hb hK hP 26 9 rfl (by decide) hi d_Mo_compile_225 ?_
        obtain ⟨hi, hk⟩ := hk
        refine nm_st hx hb hK hP hD hS 30 12 rfl (by decide) hi d_Mo_compile_226 (fun H locs hP hD hS => ?_)
        refine lv_aload_n hx hb d_Mo_compile_227 rfl (lv_at hl 0 rfl) ?_
        refine nm_getA hx hb hg hown hK hP 31 (by decide) (by decide) (hg _ mw_921) d_Mo_compile_228 ?_
        refine lv_iload_n hx hb d_Mo_compile_231 rfl (lv_at hl 1 rfl) ?_
        refine lv_aload_n hx hb d_Mo_compile_232 rfl (lv_at hl 0 rfl) ?_
        refine nm_getA hx hb hg hown hK hP 27 (by decide) (by decide) (hg _ mw_917) d_Mo_compile_233 ?_
        refine lv_iload_n hx hb d_Mo_compile_236 rfl (lv_at hl 1 rfl) ?_
        obtain ⟨hi, hk⟩ := hk
        refine nm_ld hx hb hK hP 27 10 rfl (by decide) hi d_Mo_compile_237 ?_
        refine nb_top (nm_g x 27 v1) rfl ?_
        obtain ⟨hi, hk⟩ := hk
        refine nm_st hx hb hK hP hD hS 31 13 rfl (by decide) hi d_Mo_compile_238 (fun H locs hP hD hS => ?_)
        refine lv_aload_n hx hb d_Mo_compile_239 rfl (lv_at hl 0 rfl) ?_
        refine nm_getA hx hb hg hown hK hP 32 (by decide) (by decide) (hg _ mw_922) d_Mo_compile_240 ?_
        refine lv_iload_n hx hb d_Mo_compile_243 rfl (lv_at hl 1 rfl) ?_
        refine lv_aload_n hx hb d_Mo_compile_244 rfl (lv_at hl 0 rfl) ?_
        refine nm_getA hx hb hg hown hK hP 28 (by decide) (by decide) (hg _ mw_918) d_Mo_compile_245 ?_
        refine lv_iload_n hx hb d_Mo_compile_248 rfl (lv_at hl 1 rfl) ?_
        obtain ⟨hi, hk⟩ := hk
        refine nm_ld hx hb hK hP 28 11 rfl (by decide) hi d_Mo_compile_249 ?_
        refine nb_top (nm_g x 28 v1) rfl ?_
        obtain ⟨hi, hk⟩ := hk
        refine nm_st hx hb hK hP hD hS 32 14 rfl (by decide) hi d_Mo_compile_250 (fun H locs hP hD hS => ?_)
        refine lv_iinc (k := 1) (v := v1 + 1) (lv' := [(1, .int (v1 + 1)), (0, .ref mo)]) hx hb d_Mo_compile_251 hl rfl (rfl) (by decide) rfl (fun ls hl => ?_)
        refine lv_goto (tgt := 207) hx hb d_Mo_compile_254 rfl ?_
        have hl := lv_sub (l' := [(0, .ref mo), (1, .int (v1 + 1))]) hl [1, 0] rfl
        have hR : k_compile_207 (n + 1) x v1 = k_compile_207 n (nm_a (nm_a (nm_a x 30 v1 (nm_g x 26 v1)) 31 v1 (nm_g x 27 v1)) 32 v1 (nm_g x 28 v1)) (v1 + 1) := by rw [k_compile_207]; rw [if_neg hc212]
        exact nm_W2 hR (ih (nm_a (nm_a (nm_a x 30 v1 (nm_g x 26 v1)) 31 v1 (nm_g x 27 v1)) 32 v1 (nm_g x 28 v1)) (v1 + 1) ls _ _ hk hl hP hD hS)
  have J185 : ∀ (x : nM) (w0 : Int32) (ls : Array Slot) (H : Heap) (locs : List Loc), p_compile_185 x w0 → lv_has ls 2 [(0, .ref mo)] → va_P G.1 nn_cls (nm_W G mo ad x) H → va_D A (nm_W G mo ad x) → va_S A s.heap H locs → W p l e (headSpec w_Mo_compile ({ frames := 8, cells := 0, slots := 0, locals := 173 })).room s m [.ref mo].toArray below meth c H locs 0 0 (MQ below (nm_Qi G mo ad (k_compile_185 x w0) A) [.ref mo].toArray s 0 0 A) (F0 m 185 ls [.int w0, .ref mo]) := by
    intro x w0 ls H locs hk hl hP hD hS
    unfold p_compile_185 at hk
    refine nm_put hx hb hg hown hK hP hD hS 10 (by decide) (by decide) (by decide) (hg _ mw_900) d_Mo_compile_185 (fun H locs hP hD hS => ?_)
    refine lv_aload_n hx hb d_Mo_compile_188 rfl (lv_at hl 0 rfl) ?_
    refine nm_get hx hb hg hown hK hP 7 (by decide) (by decide) (hg _ mw_897) d_Mo_compile_189 ?_
    refine nb_top (x.1 7) rfl ?_
    refine lv_if_le (tgt := 197) hx hb d_Mo_compile_192 rfl (fun hc192 => ?_) (fun hc192 => ?_)
    · skip
      have hk := hk.1 hc192
      refine lv_aload_n hx hb d_Mo_compile_197 rfl (lv_at hl 0 rfl) ?_
      refine lv_aload_n hx hb d_Mo_compile_198 rfl (lv_at hl 0 rfl) ?_
      refine nm_get hx hb hg hown hK hP 25 (by decide) (by decide) (hg _ mw_915) d_Mo_compile_199 ?_
      refine nb_top (x.1 25) rfl ?_
      refine nm_put hx hb hg hown hK hP hD hS 29 (by decide) (by decide) (by decide) (hg _ mw_919) d_Mo_compile_202 (fun H locs hP hD hS => ?_)
      refine lv_iconst (v := 0) hx hb d_Mo_compile_205 (by decide) ?_
      refine lv_istore_n (lv' := [(1, .int 0), (0, .ref mo)]) hx hb d_Mo_compile_206 rfl hl (by decide) rfl (fun ls hl => ?_)
      have hl := lv_sub (l' := [(0, .ref mo), (1, .int 0)]) hl [1, 0] rfl
      have hR : k_compile_185 x w0 = k_compile_207 401 (nm_f (nm_f x 10 w0) 29 (x.1 25)) 0 := by rw [k_compile_185]; rw [if_pos hc192]
      exact nm_W2 hR (J207 401 (nm_f (nm_f x 10 w0) 29 (x.1 25)) 0 ls _ _ hk hl hP hD hS)
    · skip
      have hk := hk.2 hc192
      refine lv_iconst (v := 0) hx hb d_Mo_compile_195 (by decide) ?_
      have hR : k_compile_185 x w0 = (nm_f x 10 w0, 0) := by rw [k_compile_185]; rw [if_neg hc192]
      refine nm_W2 hR ?_
      exact W.iret (v := 0) hx hb hr (fun t ht hW => ⟨⟨0, (), rfl, rfl, ⟨by rw [ht]; exact hP, hD⟩⟩, hS.F ht⟩) hS.2.2 d_Mo_compile_196
  have J166 : ∀ (x : nM) (w0 : Int32) (ls : Array Slot) (H : Heap) (locs : List Loc), p_compile_166 x w0 → lv_has ls 2 [(0, .ref mo)] → va_P G.1 nn_cls (nm_W G mo ad x) H → va_D A (nm_W G mo ad x) → va_S A s.heap H locs → W p l e (headSpec w_Mo_compile ({ frames := 8, cells := 0, slots := 0, locals := 173 })).room s m [.ref mo].toArray below meth c H locs 0 0 (MQ below (nm_Qi G mo ad (k_compile_166 x w0) A) [.ref mo].toArray s 0 0 A) (F0 m 166 ls [.int w0, .ref mo]) := by
    intro x w0 ls H locs hk hl hP hD hS
    unfold p_compile_166 at hk
    refine nm_put hx hb hg hown hK hP hD hS 9 (by decide) (by decide) (by decide) (hg _ mw_899) d_Mo_compile_166 (fun H locs hP hD hS => ?_)
    refine lv_aload_n hx hb d_Mo_compile_169 rfl (lv_at hl 0 rfl) ?_
    refine lv_aload_n hx hb d_Mo_compile_170 rfl (lv_at hl 0 rfl) ?_
    refine nm_get hx hb hg hown hK hP 7 (by decide) (by decide) (hg _ mw_897) d_Mo_compile_171 ?_
    refine nb_top (x.1 7) rfl ?_
    refine lv_if_le (tgt := 184) hx hb d_Mo_compile_174 rfl (fun hc174 => ?_) (fun hc174 => ?_)
    · skip
      have hk := hk.1 hc174
      refine lv_iconst (v := (-1)) hx hb d_Mo_compile_184 (by decide) ?_
      have hl := lv_sub (l' := [(0, .ref mo)]) hl [0] rfl
      have hR : k_compile_166 x w0 = k_compile_185 (nm_f x 9 w0) (-1) := by rw [k_compile_166]; rw [if_pos hc174]
      exact nm_W2 hR (J185 (nm_f x 9 w0) (-1) ls _ _ hk hl hP hD hS)
    · skip
      have hk := hk.2 hc174
      refine lv_aload_n hx hb d_Mo_compile_177 rfl (lv_at hl 0 rfl) ?_
      refine nm_get hx hb hg hown hK hP 8 (by decide) (by decide) (hg _ mw_898) d_Mo_compile_178 ?_
      refine nb_top (x.1 8) rfl ?_
      refine lv_goto (tgt := 185) hx hb d_Mo_compile_181 rfl ?_
      have hl := lv_sub (l' := [(0, .ref mo)]) hl [0] rfl
      have hR : k_compile_166 x w0 = k_compile_185 (nm_f x 9 w0) (x.1 8) := by rw [k_compile_166]; rw [if_neg hc174]
      exact nm_W2 hR (J185 (nm_f x 9 w0) (x.1 8) ls _ _ hk hl hP hD hS)
  have J147 : ∀ (x : nM) (w0 : Int32) (ls : Array Slot) (H : Heap) (locs : List Loc), p_compile_147 x w0 → lv_has ls 2 [(0, .ref mo)] → va_P G.1 nn_cls (nm_W G mo ad x) H → va_D A (nm_W G mo ad x) → va_S A s.heap H locs → W p l e (headSpec w_Mo_compile ({ frames := 8, cells := 0, slots := 0, locals := 173 })).room s m [.ref mo].toArray below meth c H locs 0 0 (MQ below (nm_Qi G mo ad (k_compile_147 x w0) A) [.ref mo].toArray s 0 0 A) (F0 m 147 ls [.int w0, .ref mo]) := by
    intro x w0 ls H locs hk hl hP hD hS
    unfold p_compile_147 at hk
    refine nm_put hx hb hg hown hK hP hD hS 0 (by decide) (by decide) (by decide) (hg _ mw_890) d_Mo_compile_147 (fun H locs hP hD hS => ?_)
    refine lv_aload_n hx hb d_Mo_compile_150 rfl (lv_at hl 0 rfl) ?_
    refine lv_aload_n hx hb d_Mo_compile_151 rfl (lv_at hl 0 rfl) ?_
    refine nm_get hx hb hg hown hK hP 7 (by decide) (by decide) (hg _ mw_897) d_Mo_compile_152 ?_
    refine nb_top (x.1 7) rfl ?_
    refine lv_if_le (tgt := 165) hx hb d_Mo_compile_155 rfl (fun hc155 => ?_) (fun hc155 => ?_)
    · skip
      have hk := hk.1 hc155
      refine lv_iconst (v := (-1)) hx hb d_Mo_compile_165 (by decide) ?_
      have hl := lv_sub (l' := [(0, .ref mo)]) hl [0] rfl
      have hR : k_compile_147 x w0 = k_compile_166 (nm_f x 0 w0) (-1) := by rw [k_compile_147]; rw [if_pos hc155]
      exact nm_W2 hR (J166 (nm_f x 0 w0) (-1) ls _ _ hk hl hP hD hS)
    · skip
      have hk := hk.2 hc155
      refine lv_aload_n hx hb d_Mo_compile_158 rfl (lv_at hl 0 rfl) ?_
      refine nm_get hx hb hg hown hK hP 7 (by decide) (by decide) (hg _ mw_897) d_Mo_compile_159 ?_
      refine nb_top (x.1 7) rfl ?_
      refine lv_goto (tgt := 166) hx hb d_Mo_compile_162 rfl ?_
      have hl := lv_sub (l' := [(0, .ref mo)]) hl [0] rfl
      have hR : k_compile_147 x w0 = k_compile_166 (nm_f x 0 w0) (x.1 7) := by rw [k_compile_147]; rw [if_neg hc155]
      exact nm_W2 hR (J166 (nm_f x 0 w0) (x.1 7) ls _ _ hk hl hP hD hS)
  have J129 : ∀ (x : nM)  (ls : Array Slot) (H : Heap) (locs : List Loc), p_compile_129 x → lv_has ls 2 [(0, .ref mo)] → va_P G.1 nn_cls (nm_W G mo ad x) H → va_D A (nm_W G mo ad x) → va_S A s.heap H locs → W p l e (headSpec w_Mo_compile ({ frames := 8, cells := 0, slots := 0, locals := 173 })).room s m [.ref mo].toArray below meth c H locs 0 0 (MQ below (nm_Qi G mo ad (k_compile_129 x) A) [.ref mo].toArray s 0 0 A) (F0 m 129 ls []) := by
    intro x  ls H locs hk hl hP hD hS
    unfold p_compile_129 at hk
    refine lv_aload_n hx hb d_Mo_compile_129 rfl (lv_at hl 0 rfl) ?_
    refine lv_iconst (v := 0) hx hb d_Mo_compile_130 (by decide) ?_
    refine nm_put hx hb hg hown hK hP hD hS 1 (by decide) (by decide) (by decide) (hg _ mw_891) d_Mo_compile_131 (fun H locs hP hD hS => ?_)
    refine lv_aload_n hx hb d_Mo_compile_134 rfl (lv_at hl 0 rfl) ?_
    refine lv_aload_n hx hb d_Mo_compile_135 rfl (lv_at hl 0 rfl) ?_
    refine nm_get hx hb hg hown hK hP 7 (by decide) (by decide) (hg _ mw_897) d_Mo_compile_136 ?_
    refine nb_top (x.1 7) rfl ?_
    refine lv_if_le (tgt := 146) hx hb d_Mo_compile_139 rfl (fun hc139 => ?_) (fun hc139 => ?_)
    · skip
      have hk := hk.1 hc139
      refine lv_iconst (v := 0) hx hb d_Mo_compile_146 (by decide) ?_
      have hl := lv_sub (l' := [(0, .ref mo)]) hl [0] rfl
      have hR : k_compile_129 x = k_compile_147 (nm_f x 1 0) 0 := by rw [k_compile_129]; rw [if_pos hc139]
      exact nm_W2 hR (J147 (nm_f x 1 0) 0 ls _ _ hk hl hP hD hS)
    · skip
      have hk := hk.2 hc139
      refine lv_iconst (v := 1) hx hb d_Mo_compile_142 (by decide) ?_
      refine lv_goto (tgt := 147) hx hb d_Mo_compile_143 rfl ?_
      have hl := lv_sub (l' := [(0, .ref mo)]) hl [0] rfl
      have hR : k_compile_129 x = k_compile_147 (nm_f x 1 0) 1 := by rw [k_compile_129]; rw [if_neg hc139]
      exact nm_W2 hR (J147 (nm_f x 1 0) 1 ls _ _ hk hl hP hD hS)
  have J61 : ∀ (n : Nat) (x : nM) (v1 : Int32) (ls : Array Slot) (H : Heap) (locs : List Loc), p_compile_61 n x v1 → lv_has ls 2 [(0, .ref mo), (1, .int v1)] → va_P G.1 nn_cls (nm_W G mo ad x) H → va_D A (nm_W G mo ad x) → va_S A s.heap H locs → W p l e (headSpec w_Mo_compile ({ frames := 8, cells := 0, slots := 0, locals := 173 })).room s m [.ref mo].toArray below meth c H locs 0 0 (MQ below (nm_Qi G mo ad (k_compile_61 n x v1) A) [.ref mo].toArray s 0 0 A) (F0 m 61 ls []) := by
    intro n
    induction n with
    | zero =>
      intro x v1 ls H locs hk
      exact (show False from hk).elim
    | succ n ih =>
      intro x v1 ls H locs hk hl hP hD hS
      unfold p_compile_61 at hk
      refine lv_iload_n hx hb d_Mo_compile_61 rfl (lv_at hl 1 rfl) ?_
      refine lv_sipush (v := 5000) hx hb d_Mo_compile_62 (by decide) ?_
      refine lv_icmp_ge (tgt := 129) hx hb d_Mo_compile_65 rfl (fun hc65 => ?_) (fun hc65 => ?_)
      · skip
        have hk := hk.1 hc65
        have hl := lv_sub (l' := [(0, .ref mo)]) hl [0] rfl
        have hR : k_compile_61 (n + 1) x v1 = k_compile_129 x := by rw [k_compile_61]; rw [if_pos hc65]
        exact nm_W2 hR (J129 x ls _ _ hk hl hP hD hS)
      · skip
        have hk := hk.2 hc65
        refine lv_aload_n hx hb d_Mo_compile_68 rfl (lv_at hl 0 rfl) ?_
        refine nm_get hx hb hg hown hK hP 11 (by decide) (by decide) (hg _ mw_901) d_Mo_compile_69 ?_
        refine lv_if_le (tgt := 129) hx hb d_Mo_compile_72 rfl (fun hc72 => ?_) (fun hc72 => ?_)
        · skip
          have hk := hk.1 hc72
          have hl := lv_sub (l' := [(0, .ref mo)]) hl [0] rfl
          have hR : k_compile_61 (n + 1) x v1 = k_compile_129 x := by rw [k_compile_61]; rw [if_neg hc65]; rw [if_pos hc72]
          exact nm_W2 hR (J129 x ls _ _ hk hl hP hD hS)
        · skip
          have hk := hk.2 hc72
          refine lv_aload_n hx hb d_Mo_compile_75 rfl (lv_at hl 0 rfl) ?_
          refine nm_get hx hb hg hown hK hP 7 (by decide) (by decide) (hg _ mw_897) d_Mo_compile_76 ?_
          refine lv_if_ne (tgt := 129) hx hb d_Mo_compile_79 rfl (fun hc79 => ?_) (fun hc79 => ?_)
          · skip
            have hk := hk.2 hc79
            have hl := lv_sub (l' := [(0, .ref mo)]) hl [0] rfl
            have hR : k_compile_61 (n + 1) x v1 = k_compile_129 x := by rw [k_compile_61]; rw [if_neg hc65]; rw [if_neg hc72]; rw [if_neg hc79]
            exact nm_W2 hR (J129 x ls _ _ hk hl hP hD hS)
          · skip
            have hk := hk.1 hc79
            refine lv_aload_n hx hb d_Mo_compile_82 rfl (lv_at hl 0 rfl) ?_
            refine lv_dup hx hb d_Mo_compile_83 rfl ?_
            refine nm_get hx hb hg hown hK hP 11 (by decide) (by decide) (hg _ mw_901) d_Mo_compile_84 ?_
            refine lv_iconst (v := 1) hx hb d_Mo_compile_87 (by decide) ?_
            refine lv_isub hx hb d_Mo_compile_88 ?_
            refine nm_put hx hb hg hown hK hP hD hS 11 (by decide) (by decide) (by decide) (hg _ mw_901) d_Mo_compile_89 (fun H locs hP hD hS => ?_)
            refine lv_aload_n hx hb d_Mo_compile_92 rfl (lv_at hl 0 rfl) ?_
            refine lv_aload_n hx hb d_Mo_compile_93 rfl (lv_at hl 0 rfl) ?_
            refine nm_getA hx hb hg hown hK hP 12 (by decide) (by decide) (hg _ mw_902) d_Mo_compile_94 ?_
            refine lv_aload_n hx hb d_Mo_compile_97 rfl (lv_at hl 0 rfl) ?_
            refine nm_get hx hb hg hown hK hP 11 (by decide) (by decide) (hg _ mw_901) d_Mo_compile_98 ?_
            refine nb_top ((x.1 11) - 1) rfl ?_
            obtain ⟨hi, hk⟩ := hk
            refine nm_ld hx hb hK hP 12 1 rfl (by decide) hi d_Mo_compile_101 ?_
            refine nb_top (nm_g x 12 ((x.1 11) - 1)) rfl ?_
            refine lv_aload_n hx hb d_Mo_compile_102 rfl (lv_at hl 0 rfl) ?_
            refine nm_getA hx hb hg hown hK hP 13 (by decide) (by decide) (hg _ mw_903) d_Mo_compile_103 ?_
            refine lv_aload_n hx hb d_Mo_compile_106 rfl (lv_at hl 0 rfl) ?_
            refine nm_get hx hb hg hown hK hP 11 (by decide) (by decide) (hg _ mw_901) d_Mo_compile_107 ?_
            refine nb_top ((x.1 11) - 1) rfl ?_
            obtain ⟨hi, hk⟩ := hk
            refine nm_ld hx hb hK hP 13 2 rfl (by decide) hi d_Mo_compile_110 ?_
            refine nb_top (nm_g x 13 ((x.1 11) - 1)) rfl ?_
            refine lv_aload_n hx hb d_Mo_compile_111 rfl (lv_at hl 0 rfl) ?_
            refine nm_getA hx hb hg hown hK hP 14 (by decide) (by decide) (hg _ mw_904) d_Mo_compile_112 ?_
            refine lv_aload_n hx hb d_Mo_compile_115 rfl (lv_at hl 0 rfl) ?_
            refine nm_get hx hb hg hown hK hP 11 (by decide) (by decide) (hg _ mw_901) d_Mo_compile_116 ?_
            refine nb_top ((x.1 11) - 1) rfl ?_
            obtain ⟨hi, hk⟩ := hk
            refine nm_ld hx hb hK hP 14 3 rfl (by decide) hi d_Mo_compile_119 ?_
            refine nb_top (nm_g x 14 ((x.1 11) - 1)) rfl ?_
            obtain ⟨hi, hk⟩ := hk
            have hFc := nm_free hD hS hA
            refine va_callv (va_runV (As := [.int (nm_g x 12 ((x.1 11) - 1)), .int (nm_g x 13 ((x.1 11) - 1)), .int (nm_g x 14 ((x.1 11) - 1))]) (rest := []) ⟨hx, hb, hml, hown, hts⟩ (t_perform l G _ mo ad (nm_f x 11 ((x.1 11) - 1)) (nm_g x 12 ((x.1 11) - 1)) (nm_g x 13 ((x.1 11) - 1)) (nm_g x 14 ((x.1 11) - 1)) hi) (cwV 3 hts (nn_gV mw_1052 mw_1049 mw_1051 mw_49 mw_94) rfl rfl rfl (by decide +kernel) ⟨Nat.le_of_ble_eq_true rfl, Nat.le_of_ble_eq_true rfl⟩) (nn_preV (va_recv hK hP rfl (q0 := 0) rfl) hP hD hK hN) rfl rfl hl.1 rfl (lv_room (Nat.le_of_ble_eq_true rfl)) d_Mo_compile_120 ⟨Nat.le_of_ble_eq_true rfl, Nat.le_of_ble_eq_true rfl⟩) hS (fun q _ h => hFc q h) hFc (fun u t H locs ht hvm hw hB hz1 hk1 hS => ?_)
            obtain ⟨hP1, hD1⟩ := hB
            rw [ht] at hP1
            have hP := hP1
            have hD := hD1.weaken (fun _ _ _ h => hFc _ h)
            refine lv_iinc (k := 1) (v := v1 + 1) (lv' := [(1, .int (v1 + 1)), (0, .ref mo)]) hx hb d_Mo_compile_123 hl rfl (rfl) (by decide) rfl (fun ls hl => ?_)
            refine lv_goto (tgt := 61) hx hb d_Mo_compile_126 rfl ?_
            have hl := lv_sub (l' := [(0, .ref mo), (1, .int (v1 + 1))]) hl [1, 0] rfl
            have hR : k_compile_61 (n + 1) x v1 = k_compile_61 n (m_perform (nm_f x 11 ((x.1 11) - 1)) (nm_g x 12 ((x.1 11) - 1)) (nm_g x 13 ((x.1 11) - 1)) (nm_g x 14 ((x.1 11) - 1))) (v1 + 1) := by rw [k_compile_61]; rw [if_neg hc65]; rw [if_neg hc72]; rw [if_pos hc79]
            exact nm_W2 hR (ih (m_perform (nm_f x 11 ((x.1 11) - 1)) (nm_g x 12 ((x.1 11) - 1)) (nm_g x 13 ((x.1 11) - 1)) (nm_g x 14 ((x.1 11) - 1))) (v1 + 1) ls _ _ hk hl hP hD hS)
  unfold o_compile at hk
  refine lv_aload_n hx hb d_Mo_compile_0 rfl (lv_at hl 0 rfl) ?_
  refine lv_iconst (v := 0) hx hb d_Mo_compile_1 (by decide) ?_
  refine nm_put hx hb hg hown hK hP hD hS 11 (by decide) (by decide) (by decide) (hg _ mw_901) d_Mo_compile_2 (fun H locs hP hD hS => ?_)
  refine lv_aload_n hx hb d_Mo_compile_5 rfl (lv_at hl 0 rfl) ?_
  refine lv_iconst (v := 0) hx hb d_Mo_compile_6 (by decide) ?_
  refine nm_put hx hb hg hown hK hP hD hS 15 (by decide) (by decide) (by decide) (hg _ mw_905) d_Mo_compile_7 (fun H locs hP hD hS => ?_)
  refine lv_aload_n hx hb d_Mo_compile_10 rfl (lv_at hl 0 rfl) ?_
  refine lv_iconst (v := 0) hx hb d_Mo_compile_11 (by decide) ?_
  refine nm_put hx hb hg hown hK hP hD hS 21 (by decide) (by decide) (by decide) (hg _ mw_911) d_Mo_compile_12 (fun H locs hP hD hS => ?_)
  refine lv_aload_n hx hb d_Mo_compile_15 rfl (lv_at hl 0 rfl) ?_
  refine lv_iconst (v := 3) hx hb d_Mo_compile_16 (by decide) ?_
  refine nm_put hx hb hg hown hK hP hD hS 22 (by decide) (by decide) (by decide) (hg _ mw_912) d_Mo_compile_17 (fun H locs hP hD hS => ?_)
  refine lv_aload_n hx hb d_Mo_compile_20 rfl (lv_at hl 0 rfl) ?_
  refine lv_iconst (v := 0) hx hb d_Mo_compile_21 (by decide) ?_
  refine nm_put hx hb hg hown hK hP hD hS 23 (by decide) (by decide) (by decide) (hg _ mw_913) d_Mo_compile_22 (fun H locs hP hD hS => ?_)
  refine lv_aload_n hx hb d_Mo_compile_25 rfl (lv_at hl 0 rfl) ?_
  refine lv_iconst (v := 0) hx hb d_Mo_compile_26 (by decide) ?_
  refine nm_put hx hb hg hown hK hP hD hS 24 (by decide) (by decide) (by decide) (hg _ mw_914) d_Mo_compile_27 (fun H locs hP hD hS => ?_)
  refine lv_aload_n hx hb d_Mo_compile_30 rfl (lv_at hl 0 rfl) ?_
  refine lv_iconst (v := 0) hx hb d_Mo_compile_31 (by decide) ?_
  refine nm_put hx hb hg hown hK hP hD hS 25 (by decide) (by decide) (by decide) (hg _ mw_915) d_Mo_compile_32 (fun H locs hP hD hS => ?_)
  refine lv_aload_n hx hb d_Mo_compile_35 rfl (lv_at hl 0 rfl) ?_
  refine lv_iconst (v := 0) hx hb d_Mo_compile_36 (by decide) ?_
  refine nm_put hx hb hg hown hK hP hD hS 7 (by decide) (by decide) (by decide) (hg _ mw_897) d_Mo_compile_37 (fun H locs hP hD hS => ?_)
  refine lv_aload_n hx hb d_Mo_compile_40 rfl (lv_at hl 0 rfl) ?_
  refine lv_iconst (v := 4) hx hb d_Mo_compile_41 (by decide) ?_
  refine lv_iconst (v := 0) hx hb d_Mo_compile_42 (by decide) ?_
  refine lv_iconst (v := 0) hx hb d_Mo_compile_43 (by decide) ?_
  obtain ⟨hi, hk⟩ := hk
  have hFc := nm_free hD hS hA
  refine va_callv (va_runV (As := [.int 4, .int 0, .int 0]) (rest := []) ⟨hx, hb, hml, hown, hts⟩ (t_push l G _ mo ad (nm_f (nm_f (nm_f (nm_f (nm_f (nm_f (nm_f (nm_f x 11 0) 15 0) 21 0) 22 3) 23 0) 24 0) 25 0) 7 0) 4 0 0 hi) (cwV 3 hts (nn_gV mw_1028 mw_1025 mw_1027 mw_46 mw_94) rfl rfl rfl (by decide +kernel) ⟨Nat.le_of_ble_eq_true rfl, Nat.le_of_ble_eq_true rfl⟩) (nn_preV (va_recv hK hP rfl (q0 := 0) rfl) hP hD hK hN) rfl rfl hl.1 rfl (lv_room (Nat.le_of_ble_eq_true rfl)) d_Mo_compile_44 ⟨Nat.le_of_ble_eq_true rfl, Nat.le_of_ble_eq_true rfl⟩) hS (fun q _ h => hFc q h) hFc (fun u t H locs ht hvm hw hB hz1 hk1 hS => ?_)
  obtain ⟨hP1, hD1⟩ := hB
  rw [ht] at hP1
  have hP := hP1
  have hD := hD1.weaken (fun _ _ _ h => hFc _ h)
  refine lv_aload_n hx hb d_Mo_compile_47 rfl (lv_at hl 0 rfl) ?_
  refine lv_iconst (v := 0) hx hb d_Mo_compile_48 (by decide) ?_
  refine lv_iconst (v := 0) hx hb d_Mo_compile_49 (by decide) ?_
  refine lv_iconst (v := 0) hx hb d_Mo_compile_50 (by decide) ?_
  obtain ⟨hi, hk⟩ := hk
  have hFc := nm_free hD hS hA
  refine va_callv (va_runV (As := [.int 0, .int 0, .int 0]) (rest := []) ⟨hx, hb, hml, hown, hts⟩ (t_push l G _ mo ad (m_push (nm_f (nm_f (nm_f (nm_f (nm_f (nm_f (nm_f (nm_f x 11 0) 15 0) 21 0) 22 3) 23 0) 24 0) 25 0) 7 0) 4 0 0) 0 0 0 hi) (cwV 3 hts (nn_gV mw_1028 mw_1025 mw_1027 mw_46 mw_94) rfl rfl rfl (by decide +kernel) ⟨Nat.le_of_ble_eq_true rfl, Nat.le_of_ble_eq_true rfl⟩) (nn_preV (va_recv hK hP rfl (q0 := 0) rfl) hP hD hK hN) rfl rfl hl.1 rfl (lv_room (Nat.le_of_ble_eq_true rfl)) d_Mo_compile_51 ⟨Nat.le_of_ble_eq_true rfl, Nat.le_of_ble_eq_true rfl⟩) hS (fun q _ h => hFc q h) hFc (fun u t H locs ht hvm hw hB hz1 hk1 hS => ?_)
  obtain ⟨hP1, hD1⟩ := hB
  rw [ht] at hP1
  have hP := hP1
  have hD := hD1.weaken (fun _ _ _ h => hFc _ h)
  refine lv_aload_n hx hb d_Mo_compile_54 rfl (lv_at hl 0 rfl) ?_
  refine lv_iconst (v := 0) hx hb d_Mo_compile_55 (by decide) ?_
  obtain ⟨hi, hk⟩ := hk
  have hFc := nm_free hD hS hA
  refine va_callv (va_runV (As := [.int 0]) (rest := []) ⟨hx, hb, hml, hown, hts⟩ (t_look l G _ mo ad (m_push (m_push (nm_f (nm_f (nm_f (nm_f (nm_f (nm_f (nm_f (nm_f x 11 0) 15 0) 21 0) 22 3) 23 0) 24 0) 25 0) 7 0) 4 0 0) 0 0 0) 0 hi) (cwV 1 hts (nn_gV mw_1032 mw_1029 mw_1031 mw_47 mw_94) rfl rfl rfl (by decide +kernel) ⟨Nat.le_of_ble_eq_true rfl, Nat.le_of_ble_eq_true rfl⟩) (nn_preV (va_recv hK hP rfl (q0 := 0) rfl) hP hD hK hN) rfl rfl hl.1 rfl (lv_room (Nat.le_of_ble_eq_true rfl)) d_Mo_compile_56 ⟨Nat.le_of_ble_eq_true rfl, Nat.le_of_ble_eq_true rfl⟩) hS (fun q _ h => hFc q h) hFc (fun u t H locs ht hvm hw hB hz1 hk1 hS => ?_)
  obtain ⟨hP1, hD1⟩ := hB
  rw [ht] at hP1
  have hP := hP1
  have hD := hD1.weaken (fun _ _ _ h => hFc _ h)
  refine lv_iconst (v := 0) hx hb d_Mo_compile_59 (by decide) ?_
  refine lv_istore_n (lv' := [(1, .int 0), (0, .ref mo)]) hx hb d_Mo_compile_60 rfl hl (by decide) rfl (fun ls hl => ?_)
  have hl := lv_sub (l' := [(0, .ref mo), (1, .int 0)]) hl [1, 0] rfl
  have hR : m_compile x = k_compile_61 5001 (m_look (m_push (m_push (nm_f (nm_f (nm_f (nm_f (nm_f (nm_f (nm_f (nm_f x 11 0) 15 0) 21 0) 22 3) 23 0) 24 0) 25 0) 7 0) 4 0 0) 0 0 0) 0) 0 := by rw [m_compile]
  exact nm_W2 hR (J61 5001 (m_look (m_push (m_push (nm_f (nm_f (nm_f (nm_f (nm_f (nm_f (nm_f (nm_f x 11 0) 15 0) 21 0) 22 3) 23 0) 24 0) 25 0) 7 0) 4 0 0) 0 0 0) 0) 0 ls _ _ hk hl hP hD hS)
