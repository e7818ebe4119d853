/-! contracts (by wip/p1/gen.py) -/
theorem d_Mo_error_0 : decode b_Mo_error 0 = .ok (.aload_n 0, 1) := by decide +kernel
theorem d_Mo_error_1 : decode b_Mo_error 1 = .ok (.iconst 0, 1) := by decide +kernel
theorem d_Mo_error_2 : decode b_Mo_error 2 = .ok (.putfield 72, 3) := by decide +kernel
theorem d_Mo_error_5 : decode b_Mo_error 5 = .ok (.iload_n 1, 1) := by decide +kernel
theorem d_Mo_error_6 : decode b_Mo_error 6 = .ok (.ifCond .ne 10, 3) := by decide +kernel
theorem d_Mo_error_9 : decode b_Mo_error 9 = .ok (.aload_n 0, 1) := by decide +kernel
theorem d_Mo_error_10 : decode b_Mo_error 10 = .ok (.getfield 13, 3) := by decide +kernel
theorem d_Mo_error_13 : decode b_Mo_error 13 = .ok (.goto 16, 3) := by decide +kernel
theorem d_Mo_error_16 : decode b_Mo_error 16 = .ok (.iload_n 1, 1) := by decide +kernel
theorem d_Mo_error_17 : decode b_Mo_error 17 = .ok (.iconst 1, 1) := by decide +kernel
theorem d_Mo_error_18 : decode b_Mo_error 18 = .ok (.if_icmp .ne 10, 3) := by decide +kernel
theorem d_Mo_error_21 : decode b_Mo_error 21 = .ok (.aload_n 0, 1) := by decide +kernel
theorem d_Mo_error_22 : decode b_Mo_error 22 = .ok (.getfield 17, 3) := by decide +kernel
theorem d_Mo_error_25 : decode b_Mo_error 25 = .ok (.goto 4, 3) := by decide +kernel
theorem d_Mo_error_28 : decode b_Mo_error 28 = .ok (.iconst (-1), 1) := by decide +kernel
theorem d_Mo_error_29 : decode b_Mo_error 29 = .ok (.ireturn, 1) := by decide +kernel

def m_error (x : nM) (a1 : Int32) : nM × Int32 := (if a1 = 0 then (nm_f x 0 0, x.1 9) else (if a1 = 1 then (nm_f x 0 0, x.1 10) else (nm_f x 0 0, (-1))))
def o_error (x : nM) (a1 : Int32) : Prop := ((a1 = 0 → True) ∧ (¬ (a1 = 0) → ((a1 = 1 → True) ∧ (¬ (a1 = 1) → True))))
set_option maxHeartbeats 4000000 in
set_option maxRecDepth 100000 in
theorem t_error (l : Launch) (G : nn_G) (sz : Nat) (mo : Nat) (ad : Nat → Nat) (x : nM) (a1 : Int32) (hk : o_error x a1) : Met l y_Mo_error w_Mo_error ({ frames := 0, cells := 0, slots := 0, locals := 0 }) (nn_P G [.ref mo, .int a1] (nm_W G mo ad x) sz) (nm_Qi G mo ad (m_error x a1) (va_A (nm_W G mo ad x) sz)) 0 0 (va_A (nm_W G mo ad x) sz) := by
  refine Met.ofW (cc := b_Mo_error) (maxL := 2) (ret := some .int) (by decide) rfl ?_
  intro p e s m args below meth c s₁ B hml hv
  obtain ⟨rfl, hsz, hP, hK, hD0, hN⟩ := hv
  have hx := B.exec
  have hb := B.bytes
  have hr := B.returns
  have hts := atoms_spec (ws := w_Mo_error) B.pre
  have hg : ∀ w ∈ nn_gw, w.before _ s = true := fun w h => hts w (List.mem_cons_of_mem _ h)
  have hown : s.vm.findClass R_Mo = some m.cls := findClass_of_methodNamed B.named
  subst hsz
  have hD := hD0.self (sz := s.heap.size)
  generalize hAe : va_A (nm_W G mo ad x) s.heap.size = A at hD ⊢
  have hA : ∀ q : Nat, s.heap.size ≤ q → A q := fun q h => by rw [← hAe]; exact Or.inr h
  clear hAe
  have hS : va_S A s.heap s.heap [] := va_S.rf
  have hP : va_P G.1 nn_cls (nm_W G mo ad x) s.heap := hP
  have hl := lv_entry ([.ref mo, .int a1]) (n := 2) (Nat.le_of_ble_eq_true rfl)
  rw [lg_entry_eq]
  generalize (lg_sl ([.ref mo, .int a1]) ++ List.replicate (2 - (lg_sl ([.ref mo, .int a1])).length) Slot.unset).toArray = ls at hl ⊢
  have hl : lv_has ls 2 [(0, .ref mo), (1, .int a1)] := hl
  unfold o_error at hk
  refine lv_aload_n hx hb d_Mo_error_0 rfl (lv_at hl 0 rfl) ?_
  refine lv_iconst (v := 0) hx hb d_Mo_error_1 (by decide) ?_
  refine nm_put hx hb hg hown hK hP hD hS 0 (by decide) (by decide) (by decide) (hg _ mw_890) d_Mo_error_2 (fun H locs hP hD hS => ?_)
  refine lv_iload_n hx hb d_Mo_error_5 rfl (lv_at hl 1 rfl) ?_
  refine lv_if_ne (tgt := 16) hx hb d_Mo_error_6 rfl (fun hc6 => ?_) (fun hc6 => ?_)
  · skip
    have hk := hk.2 hc6
    refine lv_iload_n hx hb d_Mo_error_16 rfl (lv_at hl 1 rfl) ?_
    refine lv_iconst (v := 1) hx hb d_Mo_error_17 (by decide) ?_
    refine lv_icmp_ne (tgt := 28) hx hb d_Mo_error_18 rfl (fun hc18 => ?_) (fun hc18 => ?_)
    · skip
      have hk := hk.2 hc18
      refine lv_iconst (v := (-1)) hx hb d_Mo_error_28 (by decide) ?_
      have hR : m_error x a1 = (nm_f x 0 0, (-1)) := by rw [m_error]; rw [if_neg hc6]; rw [if_neg hc18]
      refine nm_W2 hR ?_
      exact W.iret (v := (-1)) hx hb hr (fun t ht hW => ⟨⟨(-1), (), rfl, rfl, ⟨by rw [ht]; exact hP, hD⟩⟩, hS.F ht⟩) hS.2.2 d_Mo_error_29
    · skip
      have hk := hk.1 hc18
      refine lv_aload_n hx hb d_Mo_error_21 rfl (lv_at hl 0 rfl) ?_
      refine nm_get hx hb hg hown hK hP 10 (by decide) (by decide) (hg _ mw_900) d_Mo_error_22 ?_
      refine nb_top (x.1 10) rfl ?_
      refine lv_goto (tgt := 29) hx hb d_Mo_error_25 rfl ?_
      have hR : m_error x a1 = (nm_f x 0 0, x.1 10) := by rw [m_error]; rw [if_neg hc6]; rw [if_pos hc18]
      refine nm_W2 hR ?_
      exact W.iret (v := x.1 10) hx hb hr (fun t ht hW => ⟨⟨x.1 10, (), rfl, rfl, ⟨by rw [ht]; exact hP, hD⟩⟩, hS.F ht⟩) hS.2.2 d_Mo_error_29
  · skip
    have hk := hk.1 hc6
    refine lv_aload_n hx hb d_Mo_error_9 rfl (lv_at hl 0 rfl) ?_
    refine nm_get hx hb hg hown hK hP 9 (by decide) (by decide) (hg _ mw_899) d_Mo_error_10 ?_
    refine nb_top (x.1 9) rfl ?_
    refine lv_goto (tgt := 29) hx hb d_Mo_error_13 rfl ?_
    have hR : m_error x a1 = (nm_f x 0 0, x.1 9) := by rw [m_error]; rw [if_pos hc6]
    refine nm_W2 hR ?_
    exact W.iret (v := x.1 9) hx hb hr (fun t ht hW => ⟨⟨x.1 9, (), rfl, rfl, ⟨by rw [ht]; exact hP, hD⟩⟩, hS.F ht⟩) hS.2.2 d_Mo_error_29

theorem d_Mo_code_0 : decode b_Mo_code 0 = .ok (.aload_n 0, 1) := by decide +kernel
theorem d_Mo_code_1 : decode b_Mo_code 1 = .ok (.iconst 0, 1) := by decide +kernel
theorem d_Mo_code_2 : decode b_Mo_code 2 = .ok (.putfield 72, 3) := by decide +kernel
theorem d_Mo_code_5 : decode b_Mo_code 5 = .ok (.iload_n 1, 1) := by decide +kernel
theorem d_Mo_code_6 : decode b_Mo_code 6 = .ok (.iconst (-1), 1) := by decide +kernel
theorem d_Mo_code_7 : decode b_Mo_code 7 = .ok (.if_icmp .ne 8, 3) := by decide +kernel
theorem d_Mo_code_10 : decode b_Mo_code 10 = .ok (.aload_n 0, 1) := by decide +kernel
theorem d_Mo_code_11 : decode b_Mo_code 11 = .ok (.getfield 229, 3) := by decide +kernel
theorem d_Mo_code_14 : decode b_Mo_code 14 = .ok (.ireturn, 1) := by decide +kernel
theorem d_Mo_code_15 : decode b_Mo_code 15 = .ok (.iload_n 1, 1) := by decide +kernel
theorem d_Mo_code_16 : decode b_Mo_code 16 = .ok (.ifCond .lt 11, 3) := by decide +kernel
theorem d_Mo_code_19 : decode b_Mo_code 19 = .ok (.iload_n 1, 1) := by decide +kernel
theorem d_Mo_code_20 : decode b_Mo_code 20 = .ok (.aload_n 0, 1) := by decide +kernel
theorem d_Mo_code_21 : decode b_Mo_code 21 = .ok (.getfield 229, 3) := by decide +kernel
theorem d_Mo_code_24 : decode b_Mo_code 24 = .ok (.if_icmp .lt 5, 3) := by decide +kernel
theorem d_Mo_code_27 : decode b_Mo_code 27 = .ok (.iconst 0, 1) := by decide +kernel
theorem d_Mo_code_28 : decode b_Mo_code 28 = .ok (.ireturn, 1) := by decide +kernel
theorem d_Mo_code_29 : decode b_Mo_code 29 = .ok (.iload_n 2, 1) := by decide +kernel
theorem d_Mo_code_30 : decode b_Mo_code 30 = .ok (.ifCond .ne 12, 3) := by decide +kernel
theorem d_Mo_code_33 : decode b_Mo_code 33 = .ok (.aload_n 0, 1) := by decide +kernel
theorem d_Mo_code_34 : decode b_Mo_code 34 = .ok (.getfield 54, 3) := by decide +kernel
theorem d_Mo_code_37 : decode b_Mo_code 37 = .ok (.iload_n 1, 1) := by decide +kernel
theorem d_Mo_code_38 : decode b_Mo_code 38 = .ok (.iaload, 1) := by decide +kernel
theorem d_Mo_code_39 : decode b_Mo_code 39 = .ok (.goto 32, 3) := by decide +kernel
theorem d_Mo_code_42 : decode b_Mo_code 42 = .ok (.iload_n 2, 1) := by decide +kernel
theorem d_Mo_code_43 : decode b_Mo_code 43 = .ok (.iconst 1, 1) := by decide +kernel
theorem d_Mo_code_44 : decode b_Mo_code 44 = .ok (.if_icmp .ne 12, 3) := by decide +kernel
theorem d_Mo_code_47 : decode b_Mo_code 47 = .ok (.aload_n 0, 1) := by decide +kernel
theorem d_Mo_code_48 : decode b_Mo_code 48 = .ok (.getfield 57, 3) := by decide +kernel
theorem d_Mo_code_51 : decode b_Mo_code 51 = .ok (.iload_n 1, 1) := by decide +kernel
theorem d_Mo_code_52 : decode b_Mo_code 52 = .ok (.iaload, 1) := by decide +kernel
theorem d_Mo_code_53 : decode b_Mo_code 53 = .ok (.goto 18, 3) := by decide +kernel
theorem d_Mo_code_56 : decode b_Mo_code 56 = .ok (.iload_n 2, 1) := by decide +kernel
theorem d_Mo_code_57 : decode b_Mo_code 57 = .ok (.iconst 2, 1) := by decide +kernel
theorem d_Mo_code_58 : decode b_Mo_code 58 = .ok (.if_icmp .ne 12, 3) := by decide +kernel
theorem d_Mo_code_61 : decode b_Mo_code 61 = .ok (.aload_n 0, 1) := by decide +kernel
theorem d_Mo_code_62 : decode b_Mo_code 62 = .ok (.getfield 60, 3) := by decide +kernel
theorem d_Mo_code_65 : decode b_Mo_code 65 = .ok (.iload_n 1, 1) := by decide +kernel
theorem d_Mo_code_66 : decode b_Mo_code 66 = .ok (.iaload, 1) := by decide +kernel
theorem d_Mo_code_67 : decode b_Mo_code 67 = .ok (.goto 4, 3) := by decide +kernel
theorem d_Mo_code_70 : decode b_Mo_code 70 = .ok (.iconst 0, 1) := by decide +kernel
theorem d_Mo_code_71 : decode b_Mo_code 71 = .ok (.ireturn, 1) := by decide +kernel

def k_code_27 (x : nM)  : nM × Int32 := (x, 0)
def p_code_27 (x : nM)  : Prop := True
def m_code (x : nM) (a1 : Int32) (a2 : Int32) : nM × Int32 := (if a1 = (-1) then (nm_f x 0 0, x.1 29) else (if a1 < 0 then k_code_27 (nm_f x 0 0) else (if a1 < x.1 29 then (if a2 = 0 then (nm_f x 0 0, nm_g x 30 a1) else (if a2 = 1 then (nm_f x 0 0, nm_g x 31 a1) else (if a2 = 2 then (nm_f x 0 0, nm_g x 32 a1) else (nm_f x 0 0, 0)))) else k_code_27 (nm_f x 0 0))))
def o_code (x : nM) (a1 : Int32) (a2 : Int32) : Prop := ((a1 = (-1) → True) ∧ (¬ (a1 = (-1)) → ((a1 < 0 → p_code_27 (nm_f x 0 0)) ∧ (¬ (a1 < 0) → ((a1 < x.1 29 → ((a2 = 0 → vp_in a1 400 ∧ True) ∧ (¬ (a2 = 0) → ((a2 = 1 → vp_in a1 400 ∧ True) ∧ (¬ (a2 = 1) → ((a2 = 2 → vp_in a1 400 ∧ True) ∧ (¬ (a2 = 2) → True))))))) ∧ (¬ (a1 < x.1 29) → p_code_27 (nm_f x 0 0)))))))
set_option maxHeartbeats 4000000 in
set_option maxRecDepth 100000 in
theorem t_code (l : Launch) (G : nn_G) (sz : Nat) (mo : Nat) (ad : Nat → Nat) (x : nM) (a1 : Int32) (a2 : Int32) (hk : o_code x a1 a2) : Met l y_Mo_code w_Mo_code ({ frames := 0, cells := 0, slots := 0, locals := 0 }) (nn_P G [.ref mo, .int a1, .int a2] (nm_W G mo ad x) sz) (nm_Qi G mo ad (m_code x a1 a2) (va_A (nm_W G mo ad x) sz)) 0 0 (va_A (nm_W G mo ad x) sz) := by
  refine Met.ofW (cc := b_Mo_code) (maxL := 3) (ret := some .int) (by decide) rfl ?_
  intro p e s m args below meth c s₁ B hml hv
  obtain ⟨rfl, hsz, hP, hK, hD0, hN⟩ := hv
  have hx := B.exec
  have hb := B.bytes
  have hr := B.returns
  have hts := atoms_spec (ws := w_Mo_code) B.pre
  have hg : ∀ w ∈ nn_gw, w.before _ s = true := fun w h => hts w (List.mem_cons_of_mem _ h)
  have hown : s.vm.findClass R_Mo = some m.cls := findClass_of_methodNamed B.named
  subst hsz
  have hD := hD0.self (sz := s.heap.size)
  generalize hAe : va_A (nm_W G mo ad x) s.heap.size = A at hD ⊢
  have hA : ∀ q : Nat, s.heap.size ≤ q → A q := fun q h => by rw [← hAe]; exact Or.inr h
  clear hAe
  have hS : va_S A s.heap s.heap [] := va_S.rf
  have hP : va_P G.1 nn_cls (nm_W G mo ad x) s.heap := hP
  have hl := lv_entry ([.ref mo, .int a1, .int a2]) (n := 3) (Nat.le_of_ble_eq_true rfl)
  rw [lg_entry_eq]
  generalize (lg_sl ([.ref mo, .int a1, .int a2]) ++ List.replicate (3 - (lg_sl ([.ref mo, .int a1, .int a2])).length) Slot.unset).toArray = ls at hl ⊢
  have hl : lv_has ls 3 [(0, .ref mo), (1, .int a1), (2, .int a2)] := hl
  have J27 : ∀ (x : nM)  (ls : Array Slot) (H : Heap) (locs : List Loc), p_code_27 x → lv_has ls 3 [] → va_P G.1 nn_cls (nm_W G mo ad x) H → va_D A (nm_W G mo ad x) → va_S A s.heap H locs → W p l e (headSpec w_Mo_code ({ frames := 0, cells := 0, slots := 0, locals := 0 })).room s m [.ref mo, .int a1, .int a2].toArray below meth c H locs 0 0 (MQ below (nm_Qi G mo ad (k_code_27 x) A) [.ref mo, .int a1, .int a2].toArray s 0 0 A) (F0 m 27 ls []) := by
    intro x  ls H locs hk hl hP hD hS
    unfold p_code_27 at hk
    refine lv_iconst (v := 0) hx hb d_Mo_code_27 (by decide) ?_
    have hR : k_code_27 x = (x, 0) := by rw [k_code_27]
    refine nm_W2 hR ?_
    exact W.iret (v := 0) hx hb hr (fun t ht hW => ⟨⟨0, (), rfl, rfl, ⟨by rw [ht]; exact hP, hD⟩⟩, hS.F ht⟩) hS.2.2 d_Mo_code_28
  unfold o_code at hk
  refine lv_aload_n hx hb d_Mo_code_0 rfl (lv_at hl 0 rfl) ?_
  refine lv_iconst (v := 0) hx hb d_Mo_code_1 (by decide) ?_
  refine nm_put hx hb hg hown hK hP hD hS 0 (by decide) (by decide) (by decide) (hg _ mw_890) d_Mo_code_2 (fun H locs hP hD hS => ?_)
  refine lv_iload_n hx hb d_Mo_code_5 rfl (lv_at hl 1 rfl) ?_
  refine lv_iconst (v := (-1)) hx hb d_Mo_code_6 (by decide) ?_
  refine lv_icmp_ne (tgt := 15) hx hb d_Mo_code_7 rfl (fun hc7 => ?_) (fun hc7 => ?_)
  · skip
    have hk := hk.2 hc7
    refine lv_iload_n hx hb d_Mo_code_15 rfl (lv_at hl 1 rfl) ?_
    refine lv_if_lt (tgt := 27) hx hb d_Mo_code_16 rfl (fun hc16 => ?_) (fun hc16 => ?_)
    · skip
      have hk := hk.1 hc16
      have hl := lv_sub (l' := []) hl [] rfl
      have hR : m_code x a1 a2 = k_code_27 (nm_f x 0 0) := by rw [m_code]; rw [if_neg hc7]; rw [if_pos hc16]
      exact nm_W2 hR (J27 (nm_f x 0 0) ls _ _ hk hl hP hD hS)
    · skip
      have hk := hk.2 hc16
      refine lv_iload_n hx hb d_Mo_code_19 rfl (lv_at hl 1 rfl) ?_
      refine lv_aload_n hx hb d_Mo_code_20 rfl (lv_at hl 0 rfl) ?_
      refine nm_get hx hb hg hown hK hP 29 (by decide) (by decide) (hg _ mw_919) d_Mo_code_21 ?_
      refine nb_top (x.1 29) rfl ?_
      refine lv_icmp_lt (tgt := 29) hx hb d_Mo_code_24 rfl (fun hc24 => ?_) (fun hc24 => ?_)
      · skip
        have hk := hk.1 hc24
        refine lv_iload_n hx hb d_Mo_code_29 rfl (lv_at hl 2 rfl) ?_
        refine lv_if_ne (tgt := 42) hx hb d_Mo_code_30 rfl (fun hc30 => ?_) (fun hc30 => ?_)
        · skip
          have hk := hk.2 hc30
          refine lv_iload_n hx hb d_Mo_code_42 rfl (lv_at hl 2 rfl) ?_
          refine lv_iconst (v := 1) hx hb d_Mo_code_43 (by decide) ?_
          refine lv_icmp_ne (tgt := 56) hx hb d_Mo_code_44 rfl (fun hc44 => ?_) (fun hc44 => ?_)
          · skip
            have hk := hk.2 hc44
            refine lv_iload_n hx hb d_Mo_code_56 rfl (lv_at hl 2 rfl) ?_
            refine lv_iconst (v := 2) hx hb d_Mo_code_57 (by decide) ?_
            refine lv_icmp_ne (tgt := 70) hx hb d_Mo_code_58 rfl (fun hc58 => ?_) (fun hc58 => ?_)
            · skip
              have hk := hk.2 hc58
              refine lv_iconst (v := 0) hx hb d_Mo_code_70 (by decide) ?_
              have hR : m_code x a1 a2 = (nm_f x 0 0, 0) := by rw [m_code]; rw [if_neg hc7]; rw [if_neg hc16]; rw [if_pos hc24]; rw [if_neg hc30]; rw [if_neg hc44]; rw [if_neg hc58]
              refine nm_W2 hR ?_
              exact W.iret (v := 0) hx hb hr (fun t ht hW => ⟨⟨0, (), rfl, rfl, ⟨by rw [ht]; exact hP, hD⟩⟩, hS.F ht⟩) hS.2.2 d_Mo_code_71
            · skip
              have hk := hk.1 hc58
              refine lv_aload_n hx hb d_Mo_code_61 rfl (lv_at hl 0 rfl) ?_
              refine nm_getA hx hb hg hown hK hP 32 (by decide) (by decide) (hg _ mw_922) d_Mo_code_62 ?_
              refine lv_iload_n hx hb d_Mo_code_65 rfl (lv_at hl 1 rfl) ?_
              obtain ⟨hi, hk⟩ := hk
              refine nm_ld hx hb hK hP 32 14 rfl (by decide) hi d_Mo_code_66 ?_
              refine nb_top (nm_g x 32 a1) rfl ?_
              refine lv_goto (tgt := 71) hx hb d_Mo_code_67 rfl ?_
              have hR : m_code x a1 a2 = (nm_f x 0 0, nm_g x 32 a1) := by rw [m_code]; rw [if_neg hc7]; rw [if_neg hc16]; rw [if_pos hc24]; rw [if_neg hc30]; rw [if_neg hc44]; rw [if_pos hc58]
              refine nm_W2 hR ?_
              exact W.iret (v := nm_g x 32 a1) hx hb hr (fun t ht hW => ⟨⟨nm_g x 32 a1, (), rfl, rfl, ⟨by rw [ht]; exact hP, hD⟩⟩, hS.F ht⟩) hS.2.2 d_Mo_code_71
          · skip
            have hk := hk.1 hc44
            refine lv_aload_n hx hb d_Mo_code_47 rfl (lv_at hl 0 rfl) ?_
            refine nm_getA hx hb hg hown hK hP 31 (by decide) (by decide) (hg _ mw_921) d_Mo_code_48 ?_
            refine lv_iload_n hx hb d_Mo_code_51 rfl (lv_at hl 1 rfl) ?_
            obtain ⟨hi, hk⟩ := hk
            refine nm_ld hx hb hK hP 31 13 rfl (by decide) hi d_Mo_code_52 ?_
            refine nb_top (nm_g x 31 a1) rfl ?_
            refine lv_goto (tgt := 71) hx hb d_Mo_code_53 rfl ?_
            have hR : m_code x a1 a2 = (nm_f x 0 0, nm_g x 31 a1) := by rw [m_code]; rw [if_neg hc7]; rw [if_neg hc16]; rw [if_pos hc24]; rw [if_neg hc30]; rw [if_pos hc44]
            refine nm_W2 hR ?_
            exact W.iret (v := nm_g x 31 a1) hx hb hr (fun t ht hW => ⟨⟨nm_g x 31 a1, (), rfl, rfl, ⟨by rw [ht]; exact hP, hD⟩⟩, hS.F ht⟩) hS.2.2 d_Mo_code_71
        · skip
          have hk := hk.1 hc30
          refine lv_aload_n hx hb d_Mo_code_33 rfl (lv_at hl 0 rfl) ?_
          refine nm_getA hx hb hg hown hK hP 30 (by decide) (by decide) (hg _ mw_920) d_Mo_code_34 ?_
          refine lv_iload_n hx hb d_Mo_code_37 rfl (lv_at hl 1 rfl) ?_
          obtain ⟨hi, hk⟩ := hk
          refine nm_ld hx hb hK hP 30 12 rfl (by decide) hi d_Mo_code_38 ?_
          refine nb_top (nm_g x 30 a1) rfl ?_
          refine lv_goto (tgt := 71) hx hb d_Mo_code_39 rfl ?_
          have hR : m_code x a1 a2 = (nm_f x 0 0, nm_g x 30 a1) := by rw [m_code]; rw [if_neg hc7]; rw [if_neg hc16]; rw [if_pos hc24]; rw [if_pos hc30]
          refine nm_W2 hR ?_
          exact W.iret (v := nm_g x 30 a1) hx hb hr (fun t ht hW => ⟨⟨nm_g x 30 a1, (), rfl, rfl, ⟨by rw [ht]; exact hP, hD⟩⟩, hS.F ht⟩) hS.2.2 d_Mo_code_71
      · skip
        have hk := hk.2 hc24
        have hl := lv_sub (l' := []) hl [] rfl
        have hR : m_code x a1 a2 = k_code_27 (nm_f x 0 0) := by rw [m_code]; rw [if_neg hc7]; rw [if_neg hc16]; rw [if_neg hc24]
        exact nm_W2 hR (J27 (nm_f x 0 0) ls _ _ hk hl hP hD hS)
  · skip
    have hk := hk.1 hc7
    refine lv_aload_n hx hb d_Mo_code_10 rfl (lv_at hl 0 rfl) ?_
    refine nm_get hx hb hg hown hK hP 29 (by decide) (by decide) (hg _ mw_919) d_Mo_code_11 ?_
    refine nb_top (x.1 29) rfl ?_
    have hR : m_code x a1 a2 = (nm_f x 0 0, x.1 29) := by rw [m_code]; rw [if_pos hc7]
    refine nm_W2 hR ?_
    exact W.iret (v := x.1 29) hx hb hr (fun t ht hW => ⟨⟨x.1 29, (), rfl, rfl, ⟨by rw [ht]; exact hP, hD⟩⟩, hS.F ht⟩) hS.2.2 d_Mo_code_14

theorem d_Mo_start_0 : decode b_Mo_start 0 = .ok (.aload_n 0, 1) := by decide +kernel
theorem d_Mo_start_1 : decode b_Mo_start 1 = .ok (.iconst 0, 1) := by decide +kernel
theorem d_Mo_start_2 : decode b_Mo_start 2 = .ok (.putfield 72, 3) := by decide +kernel
theorem d_Mo_start_5 : decode b_Mo_start 5 = .ok (.aload_n 0, 1) := by decide +kernel
theorem d_Mo_start_6 : decode b_Mo_start 6 = .ok (.getfield 232, 3) := by decide +kernel
theorem d_Mo_start_9 : decode b_Mo_start 9 = .ok (.ifCond .ne 5, 3) := by decide +kernel
theorem d_Mo_start_12 : decode b_Mo_start 12 = .ok (.iconst 0, 1) := by decide +kernel
theorem d_Mo_start_13 : decode b_Mo_start 13 = .ok (.ireturn, 1) := by decide +kernel
theorem d_Mo_start_14 : decode b_Mo_start 14 = .ok (.aload_n 0, 1) := by decide +kernel
theorem d_Mo_start_15 : decode b_Mo_start 15 = .ok (.invokevirtual 236, 3) := by decide +kernel
theorem d_Mo_start_18 : decode b_Mo_start 18 = .ok (.aload_n 0, 1) := by decide +kernel
theorem d_Mo_start_19 : decode b_Mo_start 19 = .ok (.iconst 1, 1) := by decide +kernel
theorem d_Mo_start_20 : decode b_Mo_start 20 = .ok (.putfield 239, 3) := by decide +kernel
theorem d_Mo_start_23 : decode b_Mo_start 23 = .ok (.aload_n 0, 1) := by decide +kernel
theorem d_Mo_start_24 : decode b_Mo_start 24 = .ok (.iconst 1, 1) := by decide +kernel
theorem d_Mo_start_25 : decode b_Mo_start 25 = .ok (.putfield 248, 3) := by decide +kernel
theorem d_Mo_start_28 : decode b_Mo_start 28 = .ok (.iconst 1, 1) := by decide +kernel
theorem d_Mo_start_29 : decode b_Mo_start 29 = .ok (.ireturn, 1) := by decide +kernel

def m_start (x : nM)  : nM × Int32 := (if x.1 33 = 0 then (nm_f x 0 0, 0) else (nm_f (nm_f (m_forget (nm_f x 0 0)) 34 1) 38 1, 1))
def o_start (x : nM)  : Prop := ((x.1 33 = 0 → True) ∧ (¬ (x.1 33 = 0) → o_forget (nm_f x 0 0) ∧ True))
set_option maxHeartbeats 4000000 in
set_option maxRecDepth 100000 in
theorem t_start (l : Launch) (G : nn_G) (sz : Nat) (mo : Nat) (ad : Nat → Nat) (x : nM)  (hk : o_start x) : Met l y_Mo_start w_Mo_start ({ frames := 1, cells := 0, slots := 0, locals := 21 }) (nn_P G [.ref mo] (nm_W G mo ad x) sz) (nm_Qi G mo ad (m_start x) (va_A (nm_W G mo ad x) sz)) 0 0 (va_A (nm_W G mo ad x) sz) := by
  refine Met.ofW (cc := b_Mo_start) (maxL := 1) (ret := some .boolean) (by decide) rfl ?_
  intro p e s m args below meth c s₁ B hml hv
  obtain ⟨rfl, hsz, hP, hK, hD0, hN⟩ := hv
  have hx := B.exec
  have hb := B.bytes
  have hr := B.returns
  have hts := atoms_spec (ws := w_Mo_start) B.pre
  have hg : ∀ w ∈ nn_gw, w.before _ s = true := fun w h => hts w (List.mem_cons_of_mem _ h)
  have hown : s.vm.findClass R_Mo = some m.cls := findClass_of_methodNamed B.named
  subst hsz
  have hD := hD0.self (sz := s.heap.size)
  generalize hAe : va_A (nm_W G mo ad x) s.heap.size = A at hD ⊢
  have hA : ∀ q : Nat, s.heap.size ≤ q → A q := fun q h => by rw [← hAe]; exact Or.inr h
  clear hAe
  have hS : va_S A s.heap s.heap [] := va_S.rf
  have hP : va_P G.1 nn_cls (nm_W G mo ad x) s.heap := hP
  have hl := lv_entry ([.ref mo]) (n := 1) (Nat.le_of_ble_eq_true rfl)
  rw [lg_entry_eq]
  generalize (lg_sl ([.ref mo]) ++ List.replicate (1 - (lg_sl ([.ref mo])).length) Slot.unset).toArray = ls at hl ⊢
  have hl : lv_has ls 1 [(0, .ref mo)] := hl
  unfold o_start at hk
  refine lv_aload_n hx hb d_Mo_start_0 rfl (lv_at hl 0 rfl) ?_
  refine lv_iconst (v := 0) hx hb d_Mo_start_1 (by decide) ?_
  refine nm_put hx hb hg hown hK hP hD hS 0 (by decide) (by decide) (by decide) (hg _ mw_890) d_Mo_start_2 (fun H locs hP hD hS => ?_)
  refine lv_aload_n hx hb d_Mo_start_5 rfl (lv_at hl 0 rfl) ?_
  refine nm_get hx hb hg hown hK hP 33 (by decide) (by decide) (hg _ mw_923) d_Mo_start_6 ?_
  refine nb_top (x.1 33) rfl ?_
  refine lv_if_ne (tgt := 14) hx hb d_Mo_start_9 rfl (fun hc9 => ?_) (fun hc9 => ?_)
  · skip
    have hk := hk.2 hc9
    refine lv_aload_n hx hb d_Mo_start_14 rfl (lv_at hl 0 rfl) ?_
    obtain ⟨hi, hk⟩ := hk
    have hFc := nm_free hD hS hA
    refine va_callv (va_runV (As := []) (rest := []) ⟨hx, hb, hml, hown, hts⟩ (t_forget l G _ mo ad (nm_f x 0 0) hi) (cwV 0 hts (nn_gV mw_1160 mw_1157 mw_1159 mw_76 mw_94) rfl rfl rfl (by decide +kernel) ⟨Nat.le_of_ble_eq_true rfl, Nat.le_of_ble_eq_true rfl⟩) (nn_preV (va_recv hK hP rfl (q0 := 0) rfl) hP hD hK hN) rfl rfl hl.1 rfl (lv_room (Nat.le_of_ble_eq_true rfl)) d_Mo_start_15 ⟨Nat.le_of_ble_eq_true rfl, Nat.le_of_ble_eq_true rfl⟩) hS (fun q _ h => hFc q h) hFc (fun u t H locs ht hvm hw hB hz1 hk1 hS => ?_)
    obtain ⟨hP1, hD1⟩ := hB
    rw [ht] at hP1
    have hP := hP1
    have hD := hD1.weaken (fun _ _ _ h => hFc _ h)
    refine lv_aload_n hx hb d_Mo_start_18 rfl (lv_at hl 0 rfl) ?_
    refine lv_iconst (v := 1) hx hb d_Mo_start_19 (by decide) ?_
    refine nm_put hx hb hg hown hK hP hD hS 34 (by decide) (by decide) (by decide) (hg _ mw_924) d_Mo_start_20 (fun H locs hP hD hS => ?_)
    refine lv_aload_n hx hb d_Mo_start_23 rfl (lv_at hl 0 rfl) ?_
    refine lv_iconst (v := 1) hx hb d_Mo_start_24 (by decide) ?_
    refine nm_put hx hb hg hown hK hP hD hS 38 (by decide) (by decide) (by decide) (hg _ mw_928) d_Mo_start_25 (fun H locs hP hD hS => ?_)
    refine lv_iconst (v := 1) hx hb d_Mo_start_28 (by decide) ?_
    have hR : m_start x = (nm_f (nm_f (m_forget (nm_f x 0 0)) 34 1) 38 1, 1) := by rw [m_start]; rw [if_neg hc9]
    refine nm_W2 hR ?_
    exact W.zret (v := 1) hx hb hr rfl (fun t ht hW => ⟨⟨1, (), rfl, rfl, ⟨by rw [ht]; exact hP, hD⟩⟩, hS.F ht⟩) hS.2.2 d_Mo_start_29
  · skip
    have hk := hk.1 hc9
    refine lv_iconst (v := 0) hx hb d_Mo_start_12 (by decide) ?_
    have hR : m_start x = (nm_f x 0 0, 0) := by rw [m_start]; rw [if_pos hc9]
    refine nm_W2 hR ?_
    exact W.zret (v := 0) hx hb hr rfl (fun t ht hW => ⟨⟨0, (), rfl, rfl, ⟨by rw [ht]; exact hP, hD⟩⟩, hS.F ht⟩) hS.2.2 d_Mo_start_13

theorem d_Mo_linked_0 : decode b_Mo_linked 0 = .ok (.aload_n 0, 1) := by decide +kernel
theorem d_Mo_linked_1 : decode b_Mo_linked 1 = .ok (.getfield 245, 3) := by decide +kernel
theorem d_Mo_linked_4 : decode b_Mo_linked 4 = .ok (.istore_n 2, 1) := by decide +kernel
theorem d_Mo_linked_5 : decode b_Mo_linked 5 = .ok (.iconst 0, 1) := by decide +kernel
theorem d_Mo_linked_6 : decode b_Mo_linked 6 = .ok (.istore_n 3, 1) := by decide +kernel
theorem d_Mo_linked_7 : decode b_Mo_linked 7 = .ok (.iload_n 3, 1) := by decide +kernel
theorem d_Mo_linked_8 : decode b_Mo_linked 8 = .ok (.iload_n 1, 1) := by decide +kernel
theorem d_Mo_linked_9 : decode b_Mo_linked 9 = .ok (.if_icmp .ge 16, 3) := by decide +kernel
theorem d_Mo_linked_12 : decode b_Mo_linked 12 = .ok (.aload_n 0, 1) := by decide +kernel
theorem d_Mo_linked_13 : decode b_Mo_linked 13 = .ok (.getfield 66, 3) := by decide +kernel
theorem d_Mo_linked_16 : decode b_Mo_linked 16 = .ok (.iload_n 2, 1) := by decide +kernel
theorem d_Mo_linked_17 : decode b_Mo_linked 17 = .ok (.iaload, 1) := by decide +kernel
theorem d_Mo_linked_18 : decode b_Mo_linked 18 = .ok (.istore_n 2, 1) := by decide +kernel
theorem d_Mo_linked_19 : decode b_Mo_linked 19 = .ok (.iinc 3 1, 3) := by decide +kernel
theorem d_Mo_linked_22 : decode b_Mo_linked 22 = .ok (.goto (-15), 3) := by decide +kernel
theorem d_Mo_linked_25 : decode b_Mo_linked 25 = .ok (.iload_n 2, 1) := by decide +kernel
theorem d_Mo_linked_26 : decode b_Mo_linked 26 = .ok (.ireturn, 1) := by decide +kernel

def k_linked_7 : Nat → nM → Int32 → Int32 → Int32 → Int32
  | 0, _, _, _, _ => 0
  | n + 1, x, v1, v2, v3 => (if v1 ≤ v3 then v2 else k_linked_7 n x v1 (nm_g x 40 v2) (v3 + 1))
def p_linked_7 : Nat → nM → Int32 → Int32 → Int32 → Prop
  | 0, _, _, _, _ => False
  | n + 1, x, v1, v2, v3 => ((v1 ≤ v3 → True) ∧ (¬ (v1 ≤ v3) → vp_in v2 200 ∧ p_linked_7 n x v1 (nm_g x 40 v2) (v3 + 1)))
def m_linked (x : nM) (a1 : Int32) : Int32 := k_linked_7 300 x a1 (x.1 36) 0
def o_linked (x : nM) (a1 : Int32) : Prop := p_linked_7 300 x a1 (x.1 36) 0
set_option maxHeartbeats 4000000 in
set_option maxRecDepth 100000 in
theorem t_linked (l : Launch) (G : nn_G) (sz : Nat) (mo : Nat) (ad : Nat → Nat) (x : nM) (a1 : Int32) (hk : o_linked x a1) : Met l y_Mo_linked w_Mo_linked ({ frames := 0, cells := 0, slots := 0, locals := 0 }) (nn_P G [.ref mo, .int a1] (nm_W G mo ad x) sz) (vp_Si (fun r => r = m_linked x a1)) 0 0 (fun _ => False) := by
  refine Met.ofW (cc := b_Mo_linked) (maxL := 4) (ret := some .int) (by decide) rfl ?_
  intro p e s m args below meth c s₁ B hml hv
  obtain ⟨rfl, hsz, hP, hK, hD0, hN⟩ := hv
  have hx := B.exec
  have hb := B.bytes
  have hr := B.returns
  have hts := atoms_spec (ws := w_Mo_linked) B.pre
  have hg : ∀ w ∈ nn_gw, w.before _ s = true := fun w h => hts w (List.mem_cons_of_mem _ h)
  have hown : s.vm.findClass R_Mo = some m.cls := findClass_of_methodNamed B.named
  subst hsz
  have hD := hD0
  have hP : va_P G.1 nn_cls (nm_W G mo ad x) s.heap := hP
  have hl := lv_entry ([.ref mo, .int a1]) (n := 4) (Nat.le_of_ble_eq_true rfl)
  rw [lg_entry_eq]
  generalize (lg_sl ([.ref mo, .int a1]) ++ List.replicate (4 - (lg_sl ([.ref mo, .int a1])).length) Slot.unset).toArray = ls at hl ⊢
  have hl : lv_has ls 4 [(0, .ref mo), (1, .int a1)] := hl
  have J7 : ∀ (n : Nat) (v1 : Int32) (v2 : Int32) (v3 : Int32) (ls : Array Slot), p_linked_7 n x v1 v2 v3 → lv_has ls 4 [(0, .ref mo), (1, .int v1), (2, .int v2), (3, .int v3)] → W p l e (headSpec w_Mo_linked ({ frames := 0, cells := 0, slots := 0, locals := 0 })).room s m [.ref mo, .int a1].toArray below meth c s.heap [] 0 0 (MQ below (vp_Si (fun r => r = k_linked_7 n x v1 v2 v3)) [.ref mo, .int a1].toArray s 0 0 (fun _ => False)) (F0 m 7 ls []) := by
    intro n
    induction n with
    | zero =>
      intro v1 v2 v3 ls hk
      exact (show False from hk).elim
    | succ n ih =>
      intro v1 v2 v3 ls hk hl
      unfold p_linked_7 at hk
      refine lv_iload_n hx hb d_Mo_linked_7 rfl (lv_at hl 3 rfl) ?_
      refine lv_iload_n hx hb d_Mo_linked_8 rfl (lv_at hl 1 rfl) ?_
      refine lv_icmp_ge (tgt := 25) hx hb d_Mo_linked_9 rfl (fun hc9 => ?_) (fun hc9 => ?_)
      · skip
        have hk := hk.1 hc9
        refine lv_iload_n hx hb d_Mo_linked_25 rfl (lv_at hl 2 rfl) ?_
        have hR : k_linked_7 (n + 1) x v1 v2 v3 = v2 := by rw [k_linked_7]; rw [if_pos hc9]
        exact W.iret (v := v2) hx hb hr (fun t ht hW => ⟨v2, rfl, hR.symm, ht⟩) (fun q h => by cases h) d_Mo_linked_26
      · skip
        have hk := hk.2 hc9
        refine lv_aload_n hx hb d_Mo_linked_12 rfl (lv_at hl 0 rfl) ?_
        refine nm_getA hx hb hg hown hK hP 40 (by decide) (by decide) (hg _ mw_930) d_Mo_linked_13 ?_
        refine lv_iload_n hx hb d_Mo_linked_16 rfl (lv_at hl 2 rfl) ?_
        obtain ⟨hi, hk⟩ := hk
        refine nm_ld hx hb hK hP 40 15 rfl (by decide) hi d_Mo_linked_17 ?_
        refine lv_istore_n (lv' := [(2, .int (nm_g x 40 v2)), (0, .ref mo), (1, .int v1), (3, .int v3)]) hx hb d_Mo_linked_18 rfl hl (by decide) rfl (fun ls hl => ?_)
        refine lv_iinc (k := 3) (v := v3 + 1) (lv' := [(3, .int (v3 + 1)), (2, .int (nm_g x 40 v2)), (0, .ref mo), (1, .int v1)]) hx hb d_Mo_linked_19 hl rfl (rfl) (by decide) rfl (fun ls hl => ?_)
        refine lv_goto (tgt := 7) hx hb d_Mo_linked_22 rfl ?_
        have hl := lv_sub (l' := [(0, .ref mo), (1, .int v1), (2, .int (nm_g x 40 v2)), (3, .int (v3 + 1))]) hl [2, 3, 1, 0] rfl
        have hR : k_linked_7 (n + 1) x v1 v2 v3 = k_linked_7 n x v1 (nm_g x 40 v2) (v3 + 1) := by rw [k_linked_7]; rw [if_neg hc9]
        exact nm_W3 hR (ih v1 (nm_g x 40 v2) (v3 + 1) ls hk hl)
  unfold o_linked at hk
  refine lv_aload_n hx hb d_Mo_linked_0 rfl (lv_at hl 0 rfl) ?_
  refine nm_get hx hb hg hown hK hP 36 (by decide) (by decide) (hg _ mw_926) d_Mo_linked_1 ?_
  refine lv_istore_n (lv' := [(2, .int (x.1 36)), (0, .ref mo), (1, .int a1)]) hx hb d_Mo_linked_4 rfl hl (by decide) rfl (fun ls hl => ?_)
  refine lv_iconst (v := 0) hx hb d_Mo_linked_5 (by decide) ?_
  refine lv_istore_n (lv' := [(3, .int 0), (2, .int (x.1 36)), (0, .ref mo), (1, .int a1)]) hx hb d_Mo_linked_6 rfl hl (by decide) rfl (fun ls hl => ?_)
  have hl := lv_sub (l' := [(0, .ref mo), (1, .int a1), (2, .int (x.1 36)), (3, .int 0)]) hl [2, 3, 1, 0] rfl
  have hR : m_linked x a1 = k_linked_7 300 x a1 (x.1 36) 0 := by rw [m_linked]
  exact nm_W3 hR (J7 300 a1 (x.1 36) 0 ls hk hl)

theorem d_Mo_room_0 : decode b_Mo_room 0 = .ok (.aload_n 0, 1) := by decide +kernel
theorem d_Mo_room_1 : decode b_Mo_room 1 = .ok (.getfield 63, 3) := by decide +kernel
theorem d_Mo_room_4 : decode b_Mo_room 4 = .ok (.iload_n 1, 1) := by decide +kernel
theorem d_Mo_room_5 : decode b_Mo_room 5 = .ok (.iadd, 1) := by decide +kernel
theorem d_Mo_room_6 : decode b_Mo_room 6 = .ok (.sipush 199, 3) := by decide +kernel
theorem d_Mo_room_9 : decode b_Mo_room 9 = .ok (.if_icmp .le 10, 3) := by decide +kernel
theorem d_Mo_room_12 : decode b_Mo_room 12 = .ok (.aload_n 0, 1) := by decide +kernel
theorem d_Mo_room_13 : decode b_Mo_room 13 = .ok (.iconst 3, 1) := by decide +kernel
theorem d_Mo_room_14 : decode b_Mo_room 14 = .ok (.putfield 239, 3) := by decide +kernel
theorem d_Mo_room_17 : decode b_Mo_room 17 = .ok (.iconst 0, 1) := by decide +kernel
theorem d_Mo_room_18 : decode b_Mo_room 18 = .ok (.ireturn, 1) := by decide +kernel
theorem d_Mo_room_19 : decode b_Mo_room 19 = .ok (.iconst 1, 1) := by decide +kernel
theorem d_Mo_room_20 : decode b_Mo_room 20 = .ok (.ireturn, 1) := by decide +kernel

def m_room (x : nM) (a1 : Int32) : nM × Int32 := (if (x.1 37) + a1 ≤ 199 then (x, 1) else (nm_f x 34 3, 0))
def o_room (x : nM) (a1 : Int32) : Prop := (((x.1 37) + a1 ≤ 199 → True) ∧ (¬ ((x.1 37) + a1 ≤ 199) → True))
set_option maxHeartbeats 4000000 in
set_option maxRecDepth 100000 in
theorem t_room (l : Launch) (G : nn_G) (sz : Nat) (mo : Nat) (ad : Nat → Nat) (x : nM) (a1 : Int32) (hk : o_room x a1) : Met l y_Mo_room w_Mo_room ({ frames := 0, cells := 0, slots := 0, locals := 0 }) (nn_P G [.ref mo, .int a1] (nm_W G mo ad x) sz) (nm_Qi G mo ad (m_room x a1) (va_A (nm_W G mo ad x) sz)) 0 0 (va_A (nm_W G mo ad x) sz) := by
  refine Met.ofW (cc := b_Mo_room) (maxL := 2) (ret := some .boolean) (by decide) rfl ?_
  intro p e s m args below meth c s₁ B hml hv
  obtain ⟨rfl, hsz, hP, hK, hD0, hN⟩ := hv
  have hx := B.exec
  have hb := B.bytes
  have hr := B.returns
  have hts := atoms_spec (ws := w_Mo_room) B.pre
  have hg : ∀ w ∈ nn_gw, w.before _ s = true := fun w h => hts w (List.mem_cons_of_mem _ h)
  have hown : s.vm.findClass R_Mo = some m.cls := findClass_of_methodNamed B.named
  subst hsz
  have hD := hD0.self (sz := s.heap.size)
  generalize hAe : va_A (nm_W G mo ad x) s.heap.size = A at hD ⊢
  have hA : ∀ q : Nat, s.heap.size ≤ q → A q := fun q h => by rw [← hAe]; exact Or.inr h
  clear hAe
  have hS : va_S A s.heap s.heap [] := va_S.rf
  have hP : va_P G.1 nn_cls (nm_W G mo ad x) s.heap := hP
  have hl := lv_entry ([.ref mo, .int a1]) (n := 2) (Nat.le_of_ble_eq_true rfl)
  rw [lg_entry_eq]
  generalize (lg_sl ([.ref mo, .int a1]) ++ List.replicate (2 - (lg_sl ([.ref mo, .int a1])).length) Slot.unset).toArray = ls at hl ⊢
  have hl : lv_has ls 2 [(0, .ref mo), (1, .int a1)] := hl
  unfold o_room at hk
  refine lv_aload_n hx hb d_Mo_room_0 rfl (lv_at hl 0 rfl) ?_
  refine nm_get hx hb hg hown hK hP 37 (by decide) (by decide) (hg _ mw_927) d_Mo_room_1 ?_
  refine lv_iload_n hx hb d_Mo_room_4 rfl (lv_at hl 1 rfl) ?_
  refine lv_iadd hx hb d_Mo_room_5 ?_
  refine lv_sipush (v := 199) hx hb d_Mo_room_6 (by decide) ?_
  refine lv_icmp_le (tgt := 19) hx hb d_Mo_room_9 rfl (fun hc9 => ?_) (fun hc9 => ?_)
  · skip
    have hk := hk.1 hc9
    refine lv_iconst (v := 1) hx hb d_Mo_room_19 (by decide) ?_
    have hR : m_room x a1 = (x, 1) := by rw [m_room]; rw [if_pos hc9]
    refine nm_W2 hR ?_
    exact W.zret (v := 1) hx hb hr rfl (fun t ht hW => ⟨⟨1, (), rfl, rfl, ⟨by rw [ht]; exact hP, hD⟩⟩, hS.F ht⟩) hS.2.2 d_Mo_room_20
  · skip
    have hk := hk.2 hc9
    refine lv_aload_n hx hb d_Mo_room_12 rfl (lv_at hl 0 rfl) ?_
    refine lv_iconst (v := 3) hx hb d_Mo_room_13 (by decide) ?_
    refine nm_put hx hb hg hown hK hP hD hS 34 (by decide) (by decide) (by decide) (hg _ mw_924) d_Mo_room_14 (fun H locs hP hD hS => ?_)
    refine lv_iconst (v := 0) hx hb d_Mo_room_17 (by decide) ?_
    have hR : m_room x a1 = (nm_f x 34 3, 0) := by rw [m_room]; rw [if_neg hc9]
    refine nm_W2 hR ?_
    exact W.zret (v := 0) hx hb hr rfl (fun t ht hW => ⟨⟨0, (), rfl, rfl, ⟨by rw [ht]; exact hP, hD⟩⟩, hS.F ht⟩) hS.2.2 d_Mo_room_18

theorem mw_79 : (.selects R_Mo y_Mo_room y_Mo_room : Cond) ∈ nn_gw := nn_at 79 (by decide +kernel) (by decide +kernel)
theorem mw_1185 : (.methodLink R_Mo 254 y_Mo_room : Cond) ∈ nn_gw := nn_at 1185 (by decide +kernel) (by decide +kernel)
theorem mw_1187 : (.instanceMethod y_Mo_room : Cond) ∈ nn_gw := nn_at 1187 (by decide +kernel) (by decide +kernel)
set_option maxRecDepth 100000 in
theorem mw_1188 : (.code y_Mo_room b_Mo_room 2 (some .boolean) : Cond) ∈ nn_gw := nn_at 1188 (by rfl) (by decide +kernel)
theorem d_Mo_put_0 : decode b_Mo_put 0 = .ok (.aload_n 0, 1) := by decide +kernel
theorem d_Mo_put_1 : decode b_Mo_put 1 = .ok (.iconst 1, 1) := by decide +kernel
theorem d_Mo_put_2 : decode b_Mo_put 2 = .ok (.invokevirtual 254, 3) := by decide +kernel
theorem d_Mo_put_5 : decode b_Mo_put 5 = .ok (.ifCond .eq 33, 3) := by decide +kernel
theorem d_Mo_put_8 : decode b_Mo_put 8 = .ok (.aload_n 0, 1) := by decide +kernel
theorem d_Mo_put_9 : decode b_Mo_put 9 = .ok (.dup, 1) := by decide +kernel
theorem d_Mo_put_10 : decode b_Mo_put 10 = .ok (.getfield 63, 3) := by decide +kernel
theorem d_Mo_put_13 : decode b_Mo_put 13 = .ok (.iconst 1, 1) := by decide +kernel
theorem d_Mo_put_14 : decode b_Mo_put 14 = .ok (.iadd, 1) := by decide +kernel
theorem d_Mo_put_15 : decode b_Mo_put 15 = .ok (.putfield 63, 3) := by decide +kernel
theorem d_Mo_put_18 : decode b_Mo_put 18 = .ok (.aload_n 0, 1) := by decide +kernel
theorem d_Mo_put_19 : decode b_Mo_put 19 = .ok (.getfield 66, 3) := by decide +kernel
theorem d_Mo_put_22 : decode b_Mo_put 22 = .ok (.aload_n 0, 1) := by decide +kernel
theorem d_Mo_put_23 : decode b_Mo_put 23 = .ok (.getfield 63, 3) := by decide +kernel
theorem d_Mo_put_26 : decode b_Mo_put 26 = .ok (.iload_n 1, 1) := by decide +kernel
theorem d_Mo_put_27 : decode b_Mo_put 27 = .ok (.iastore, 1) := by decide +kernel
theorem d_Mo_put_28 : decode b_Mo_put 28 = .ok (.aload_n 0, 1) := by decide +kernel
theorem d_Mo_put_29 : decode b_Mo_put 29 = .ok (.dup, 1) := by decide +kernel
theorem d_Mo_put_30 : decode b_Mo_put 30 = .ok (.getfield 242, 3) := by decide +kernel
theorem d_Mo_put_33 : decode b_Mo_put 33 = .ok (.iconst 1, 1) := by decide +kernel
theorem d_Mo_put_34 : decode b_Mo_put 34 = .ok (.iadd, 1) := by decide +kernel
theorem d_Mo_put_35 : decode b_Mo_put 35 = .ok (.putfield 242, 3) := by decide +kernel
theorem d_Mo_put_38 : decode b_Mo_put 38 = .ok (.return_, 1) := by decide +kernel

def m_put (x : nM) (a1 : Int32) : nM := (if (m_room x 1).2 = 0 then ((m_room x 1).1) else (nm_f (nm_a (nm_f ((m_room x 1).1) 37 ((((m_room x 1).1).1 37) + 1)) 40 ((((m_room x 1).1).1 37) + 1) a1) 35 ((((m_room x 1).1).1 35) + 1)))
def o_put (x : nM) (a1 : Int32) : Prop := o_room x 1 ∧ (((m_room x 1).2 = 0 → True) ∧ (¬ ((m_room x 1).2 = 0) → vp_in ((((m_room x 1).1).1 37) + 1) 200 ∧ True))
set_option maxHeartbeats 4000000 in
set_option maxRecDepth 100000 in
theorem t_put (l : Launch) (G : nn_G) (sz : Nat) (mo : Nat) (ad : Nat → Nat) (x : nM) (a1 : Int32) (hk : o_put x a1) : Met l y_Mo_put w_Mo_put ({ frames := 1, cells := 0, slots := 0, locals := 21 }) (nn_P G [.ref mo, .int a1] (nm_W G mo ad x) sz) (nm_Qv G mo ad (m_put x a1) (va_A (nm_W G mo ad x) sz)) 0 0 (va_A (nm_W G mo ad x) sz) := by
  refine Met.ofW (cc := b_Mo_put) (maxL := 2) (ret := none) (by decide) rfl ?_
  intro p e s m args below meth c s₁ B hml hv
  obtain ⟨rfl, hsz, hP, hK, hD0, hN⟩ := hv
  have hx := B.exec
  have hb := B.bytes
  have hr := B.returns
  have hts := atoms_spec (ws := w_Mo_put) B.pre
  have hg : ∀ w ∈ nn_gw, w.before _ s = true := fun w h => hts w (List.mem_cons_of_mem _ h)
  have hown : s.vm.findClass R_Mo = some m.cls := findClass_of_methodNamed B.named
  subst hsz
  have hD := hD0.self (sz := s.heap.size)
  generalize hAe : va_A (nm_W G mo ad x) s.heap.size = A at hD ⊢
  have hA : ∀ q : Nat, s.heap.size ≤ q → A q := fun q h => by rw [← hAe]; exact Or.inr h
  clear hAe
  have hS : va_S A s.heap s.heap [] := va_S.rf
  have hP : va_P G.1 nn_cls (nm_W G mo ad x) s.heap := hP
  have hl := lv_entry ([.ref mo, .int a1]) (n := 2) (Nat.le_of_ble_eq_true rfl)
  rw [lg_entry_eq]
  generalize (lg_sl ([.ref mo, .int a1]) ++ List.replicate (2 - (lg_sl ([.ref mo, .int a1])).length) Slot.unset).toArray = ls at hl ⊢
  have hl : lv_has ls 2 [(0, .ref mo), (1, .int a1)] := hl
  unfold o_put at hk
  refine lv_aload_n hx hb d_Mo_put_0 rfl (lv_at hl 0 rfl) ?_
  refine lv_iconst (v := 1) hx hb d_Mo_put_1 (by decide) ?_
  obtain ⟨hi, hk⟩ := hk
  have hFc := nm_free hD hS hA
  refine va_calli (va_runV (As := [.int 1]) (rest := []) ⟨hx, hb, hml, hown, hts⟩ (t_room l G _ mo ad x 1 hi) (cwV 1 hts (nn_gV mw_1188 mw_1185 mw_1187 mw_79 mw_94) rfl rfl rfl (by decide +kernel) ⟨Nat.le_of_ble_eq_true rfl, Nat.le_of_ble_eq_true rfl⟩) (nn_preV (va_recv hK hP rfl (q0 := 0) rfl) hP hD hK hN) rfl rfl hl.1 rfl (lv_room (Nat.le_of_ble_eq_true rfl)) d_Mo_put_2 ⟨Nat.le_of_ble_eq_true rfl, Nat.le_of_ble_eq_true rfl⟩) hS (fun q _ h => hFc q h) hFc (fun r1 u t H locs ht hvm hw hB hz1 hk1 hS => ?_)
  subst hw
  obtain ⟨hP1, hD1⟩ := hB
  rw [ht] at hP1
  have hP := hP1
  have hD := hD1.weaken (fun _ _ _ h => hFc _ h)
  refine lv_if_eq (tgt := 38) hx hb d_Mo_put_5 rfl (fun hc5 => ?_) (fun hc5 => ?_)
  · skip
    have hk := hk.1 hc5
    have hR : m_put x a1 = (m_room x 1).1 := by rw [m_put]; rw [if_pos hc5]
    refine nm_W1 hR ?_
    exact W.vret hx hb hr (fun t ht hW => ⟨⟨(), rfl, trivial, ⟨by rw [ht]; exact hP, hD⟩⟩, hS.F ht⟩) hS.2.2 d_Mo_put_38
  · skip
    have hk := hk.2 hc5
    refine lv_aload_n hx hb d_Mo_put_8 rfl (lv_at hl 0 rfl) ?_
    refine lv_dup hx hb d_Mo_put_9 rfl ?_
    refine nm_get hx hb hg hown hK hP 37 (by decide) (by decide) (hg _ mw_927) d_Mo_put_10 ?_
    refine lv_iconst (v := 1) hx hb d_Mo_put_13 (by decide) ?_
    refine lv_iadd hx hb d_Mo_put_14 ?_
    refine nm_put hx hb hg hown hK hP hD hS 37 (by decide) (by decide) (by decide) (hg _ mw_927) d_Mo_put_15 (fun H locs hP hD hS => ?_)
    refine lv_aload_n hx hb d_Mo_put_18 rfl (lv_at hl 0 rfl) ?_
    refine nm_getA hx hb hg hown hK hP 40 (by decide) (by decide) (hg _ mw_930) d_Mo_put_19 ?_
    refine lv_aload_n hx hb d_Mo_put_22 rfl (lv_at hl 0 rfl) ?_
    refine nm_get hx hb hg hown hK hP 37 (by decide) (by decide) (hg _ mw_927) d_Mo_put_23 ?_
    refine nb_top ((((m_room x 1).1).1 37) + 1) rfl ?_
    refine lv_iload_n hx hb d_Mo_put_26 rfl (lv_at hl 1 rfl) ?_
    obtain ⟨hi, hk⟩ := hk
    refine nm_st hx hb hK hP hD hS 40 15 rfl (by decide) hi d_Mo_put_27 (fun H locs hP hD hS => ?_)
    refine lv_aload_n hx hb d_Mo_put_28 rfl (lv_at hl 0 rfl) ?_
    refine lv_dup hx hb d_Mo_put_29 rfl ?_
    refine nm_get hx hb hg hown hK hP 35 (by decide) (by decide) (hg _ mw_925) d_Mo_put_30 ?_
    refine nb_top (((m_room x 1).1).1 35) rfl ?_
    refine lv_iconst (v := 1) hx hb d_Mo_put_33 (by decide) ?_
    refine lv_iadd hx hb d_Mo_put_34 ?_
    refine nm_put hx hb hg hown hK hP hD hS 35 (by decide) (by decide) (by decide) (hg _ mw_925) d_Mo_put_35 (fun H locs hP hD hS => ?_)
    have hR : m_put x a1 = nm_f (nm_a (nm_f ((m_room x 1).1) 37 ((((m_room x 1).1).1 37) + 1)) 40 ((((m_room x 1).1).1 37) + 1) a1) 35 ((((m_room x 1).1).1 35) + 1) := by rw [m_put]; rw [if_neg hc5]
    refine nm_W1 hR ?_
    exact W.vret hx hb hr (fun t ht hW => ⟨⟨(), rfl, trivial, ⟨by rw [ht]; exact hP, hD⟩⟩, hS.F ht⟩) hS.2.2 d_Mo_put_38

theorem mw_80 : (.selects R_Mo y_Mo_linked y_Mo_linked : Cond) ∈ nn_gw := nn_at 80 (by decide +kernel) (by decide +kernel)
theorem mw_1189 : (.methodLink R_Mo 257 y_Mo_linked : Cond) ∈ nn_gw := nn_at 1189 (by decide +kernel) (by decide +kernel)
theorem mw_1191 : (.instanceMethod y_Mo_linked : Cond) ∈ nn_gw := nn_at 1191 (by decide +kernel) (by decide +kernel)
set_option maxRecDepth 100000 in
theorem mw_1192 : (.code y_Mo_linked b_Mo_linked 4 (some .int) : Cond) ∈ nn_gw := nn_at 1192 (by rfl) (by decide +kernel)
theorem d_Mo_enter_0 : decode b_Mo_enter 0 = .ok (.aload_n 0, 1) := by decide +kernel
theorem d_Mo_enter_1 : decode b_Mo_enter 1 = .ok (.iconst 3, 1) := by decide +kernel
theorem d_Mo_enter_2 : decode b_Mo_enter 2 = .ok (.invokevirtual 254, 3) := by decide +kernel
theorem d_Mo_enter_5 : decode b_Mo_enter 5 = .ok (.ifCond .eq 78, 3) := by decide +kernel
theorem d_Mo_enter_8 : decode b_Mo_enter 8 = .ok (.aload_n 0, 1) := by decide +kernel
theorem d_Mo_enter_9 : decode b_Mo_enter 9 = .ok (.iload_n 1, 1) := by decide +kernel
theorem d_Mo_enter_10 : decode b_Mo_enter 10 = .ok (.invokevirtual 257, 3) := by decide +kernel
theorem d_Mo_enter_13 : decode b_Mo_enter 13 = .ok (.istore_n 3, 1) := by decide +kernel
theorem d_Mo_enter_14 : decode b_Mo_enter 14 = .ok (.aload_n 0, 1) := by decide +kernel
theorem d_Mo_enter_15 : decode b_Mo_enter 15 = .ok (.getfield 66, 3) := by decide +kernel
theorem d_Mo_enter_18 : decode b_Mo_enter 18 = .ok (.aload_n 0, 1) := by decide +kernel
theorem d_Mo_enter_19 : decode b_Mo_enter 19 = .ok (.getfield 63, 3) := by decide +kernel
theorem d_Mo_enter_22 : decode b_Mo_enter 22 = .ok (.iconst 1, 1) := by decide +kernel
theorem d_Mo_enter_23 : decode b_Mo_enter 23 = .ok (.iadd, 1) := by decide +kernel
theorem d_Mo_enter_24 : decode b_Mo_enter 24 = .ok (.iload_n 3, 1) := by decide +kernel
theorem d_Mo_enter_25 : decode b_Mo_enter 25 = .ok (.iastore, 1) := by decide +kernel
theorem d_Mo_enter_26 : decode b_Mo_enter 26 = .ok (.aload_n 0, 1) := by decide +kernel
theorem d_Mo_enter_27 : decode b_Mo_enter 27 = .ok (.getfield 66, 3) := by decide +kernel
theorem d_Mo_enter_30 : decode b_Mo_enter 30 = .ok (.aload_n 0, 1) := by decide +kernel
theorem d_Mo_enter_31 : decode b_Mo_enter 31 = .ok (.getfield 63, 3) := by decide +kernel
theorem d_Mo_enter_34 : decode b_Mo_enter 34 = .ok (.iconst 2, 1) := by decide +kernel
theorem d_Mo_enter_35 : decode b_Mo_enter 35 = .ok (.iadd, 1) := by decide +kernel
theorem d_Mo_enter_36 : decode b_Mo_enter 36 = .ok (.aload_n 0, 1) := by decide +kernel
theorem d_Mo_enter_37 : decode b_Mo_enter 37 = .ok (.getfield 245, 3) := by decide +kernel
theorem d_Mo_enter_40 : decode b_Mo_enter 40 = .ok (.iastore, 1) := by decide +kernel
theorem d_Mo_enter_41 : decode b_Mo_enter 41 = .ok (.aload_n 0, 1) := by decide +kernel
theorem d_Mo_enter_42 : decode b_Mo_enter 42 = .ok (.getfield 66, 3) := by decide +kernel
theorem d_Mo_enter_45 : decode b_Mo_enter 45 = .ok (.aload_n 0, 1) := by decide +kernel
theorem d_Mo_enter_46 : decode b_Mo_enter 46 = .ok (.getfield 63, 3) := by decide +kernel
theorem d_Mo_enter_49 : decode b_Mo_enter 49 = .ok (.iconst 3, 1) := by decide +kernel
theorem d_Mo_enter_50 : decode b_Mo_enter 50 = .ok (.iadd, 1) := by decide +kernel
theorem d_Mo_enter_51 : decode b_Mo_enter 51 = .ok (.aload_n 0, 1) := by decide +kernel
theorem d_Mo_enter_52 : decode b_Mo_enter 52 = .ok (.getfield 242, 3) := by decide +kernel
theorem d_Mo_enter_55 : decode b_Mo_enter 55 = .ok (.iconst 1, 1) := by decide +kernel
theorem d_Mo_enter_56 : decode b_Mo_enter 56 = .ok (.iadd, 1) := by decide +kernel
theorem d_Mo_enter_57 : decode b_Mo_enter 57 = .ok (.iastore, 1) := by decide +kernel
theorem d_Mo_enter_58 : decode b_Mo_enter 58 = .ok (.aload_n 0, 1) := by decide +kernel
theorem d_Mo_enter_59 : decode b_Mo_enter 59 = .ok (.aload_n 0, 1) := by decide +kernel
theorem d_Mo_enter_60 : decode b_Mo_enter 60 = .ok (.getfield 63, 3) := by decide +kernel
theorem d_Mo_enter_63 : decode b_Mo_enter 63 = .ok (.iconst 1, 1) := by decide +kernel
theorem d_Mo_enter_64 : decode b_Mo_enter 64 = .ok (.iadd, 1) := by decide +kernel
theorem d_Mo_enter_65 : decode b_Mo_enter 65 = .ok (.putfield 245, 3) := by decide +kernel
theorem d_Mo_enter_68 : decode b_Mo_enter 68 = .ok (.aload_n 0, 1) := by decide +kernel
theorem d_Mo_enter_69 : decode b_Mo_enter 69 = .ok (.iload_n 2, 1) := by decide +kernel
theorem d_Mo_enter_70 : decode b_Mo_enter 70 = .ok (.putfield 242, 3) := by decide +kernel
theorem d_Mo_enter_73 : decode b_Mo_enter 73 = .ok (.aload_n 0, 1) := by decide +kernel
theorem d_Mo_enter_74 : decode b_Mo_enter 74 = .ok (.dup, 1) := by decide +kernel
theorem d_Mo_enter_75 : decode b_Mo_enter 75 = .ok (.getfield 248, 3) := by decide +kernel
theorem d_Mo_enter_78 : decode b_Mo_enter 78 = .ok (.iconst 1, 1) := by decide +kernel
theorem d_Mo_enter_79 : decode b_Mo_enter 79 = .ok (.iadd, 1) := by decide +kernel
theorem d_Mo_enter_80 : decode b_Mo_enter 80 = .ok (.putfield 248, 3) := by decide +kernel
theorem d_Mo_enter_83 : decode b_Mo_enter 83 = .ok (.return_, 1) := by decide +kernel

def m_enter (x : nM) (a1 : Int32) (a2 : Int32) : nM := (if (m_room x 3).2 = 0 then ((m_room x 3).1) else (nm_f (nm_f (nm_f (nm_a (nm_a (nm_a ((m_room x 3).1) 40 ((((m_room x 3).1).1 37) + 1) (m_linked ((m_room x 3).1) a1)) 40 ((((m_room x 3).1).1 37) + 2) (((m_room x 3).1).1 36)) 40 ((((m_room x 3).1).1 37) + 3) ((((m_room x 3).1).1 35) + 1)) 36 ((((m_room x 3).1).1 37) + 1)) 35 a2) 38 ((((m_room x 3).1).1 38) + 1)))
def o_enter (x : nM) (a1 : Int32) (a2 : Int32) : Prop := o_room x 3 ∧ (((m_room x 3).2 = 0 → True) ∧ (¬ ((m_room x 3).2 = 0) → o_linked ((m_room x 3).1) a1 ∧ vp_in ((((m_room x 3).1).1 37) + 1) 200 ∧ vp_in ((((m_room x 3).1).1 37) + 2) 200 ∧ vp_in ((((m_room x 3).1).1 37) + 3) 200 ∧ True))
set_option maxHeartbeats 4000000 in
set_option maxRecDepth 100000 in
theorem t_enter (l : Launch) (G : nn_G) (sz : Nat) (mo : Nat) (ad : Nat → Nat) (x : nM) (a1 : Int32) (a2 : Int32) (hk : o_enter x a1 a2) : Met l y_Mo_enter w_Mo_enter ({ frames := 1, cells := 0, slots := 0, locals := 23 }) (nn_P G [.ref mo, .int a1, .int a2] (nm_W G mo ad x) sz) (nm_Qv G mo ad (m_enter x a1 a2) (va_A (nm_W G mo ad x) sz)) 0 0 (va_A (nm_W G mo ad x) sz) := by
  refine Met.ofW (cc := b_Mo_enter) (maxL := 4) (ret := none) (by decide) rfl ?_
  intro p e s m args below meth c s₁ B hml hv
  obtain ⟨rfl, hsz, hP, hK, hD0, hN⟩ := hv
  have hx := B.exec
  have hb := B.bytes
  have hr := B.returns
  have hts := atoms_spec (ws := w_Mo_enter) B.pre
  have hg : ∀ w ∈ nn_gw, w.before _ s = true := fun w h => hts w (List.mem_cons_of_mem _ h)
  have hown : s.vm.findClass R_Mo = some m.cls := findClass_of_methodNamed B.named
  subst hsz
  have hD := hD0.self (sz := s.heap.size)
  generalize hAe : va_A (nm_W G mo ad x) s.heap.size = A at hD ⊢
  have hA : ∀ q : Nat, s.heap.size ≤ q → A q := fun q h => by rw [← hAe]; exact Or.inr h
  clear hAe
  have hS : va_S A s.heap s.heap [] := va_S.rf
  have hP : va_P G.1 nn_cls (nm_W G mo ad x) s.heap := hP
  have hl := lv_entry ([.ref mo, .int a1, .int a2]) (n := 4) (Nat.le_of_ble_eq_true rfl)
  rw [lg_entry_eq]
  generalize (lg_sl ([.ref mo, .int a1, .int a2]) ++ List.replicate (4 - (lg_sl ([.ref mo, .int a1, .int a2])).length) Slot.unset).toArray = ls at hl ⊢
  have hl : lv_has ls 4 [(0, .ref mo), (1, .int a1), (2, .int a2)] := hl
  unfold o_enter at hk
  refine lv_aload_n hx hb d_Mo_enter_0 rfl (lv_at hl 0 rfl) ?_
  refine lv_iconst (v := 3) hx hb d_Mo_enter_1 (by decide) ?_
  obtain ⟨hi, hk⟩ := hk
  have hFc := nm_free hD hS hA
  refine va_calli (va_runV (As := [.int 3]) (rest := []) ⟨hx, hb, hml, hown, hts⟩ (t_room l G _ mo ad x 3 hi) (cwV 1 hts (nn_gV mw_1188 mw_1185 mw_1187 mw_79 mw_94) rfl rfl rfl (by decide +kernel) ⟨Nat.le_of_ble_eq_true rfl, Nat.le_of_ble_eq_true rfl⟩) (nn_preV (va_recv hK hP rfl (q0 := 0) rfl) hP hD hK hN) rfl rfl hl.1 rfl (lv_room (Nat.le_of_ble_eq_true rfl)) d_Mo_enter_2 ⟨Nat.le_of_ble_eq_true rfl, Nat.le_of_ble_eq_true rfl⟩) hS (fun q _ h => hFc q h) hFc (fun r1 u t H locs ht hvm hw hB hz1 hk1 hS => ?_)
  subst hw
  obtain ⟨hP1, hD1⟩ := hB
  rw [ht] at hP1
  have hP := hP1
  have hD := hD1.weaken (fun _ _ _ h => hFc _ h)
  refine lv_if_eq (tgt := 83) hx hb d_Mo_enter_5 rfl (fun hc5 => ?_) (fun hc5 => ?_)
  · skip
    have hk := hk.1 hc5
    have hR : m_enter x a1 a2 = (m_room x 3).1 := by rw [m_enter]; rw [if_pos hc5]
    refine nm_W1 hR ?_
    exact W.vret hx hb hr (fun t ht hW => ⟨⟨(), rfl, trivial, ⟨by rw [ht]; exact hP, hD⟩⟩, hS.F ht⟩) hS.2.2 d_Mo_enter_83
  · skip
    have hk := hk.2 hc5
    refine lv_aload_n hx hb d_Mo_enter_8 rfl (lv_at hl 0 rfl) ?_
    refine lv_iload_n hx hb d_Mo_enter_9 rfl (lv_at hl 1 rfl) ?_
    obtain ⟨hi, hk⟩ := hk
    refine vp_callSi (va_Run.run (va_runV (As := [.int a1]) (rest := []) ⟨hx, hb, hml, hown, hts⟩ (t_linked l G _ mo ad ((m_room x 3).1) a1 hi) (cwV 1 hts (nn_gV mw_1192 mw_1189 mw_1191 mw_80 mw_94) rfl rfl rfl (by decide +kernel) ⟨Nat.le_of_ble_eq_true rfl, Nat.le_of_ble_eq_true rfl⟩) (nn_preV (va_recv hK hP rfl (q0 := 0) rfl) hP hD hK hN) rfl rfl hl.1 rfl (lv_room (Nat.le_of_ble_eq_true rfl)) d_Mo_enter_10 ⟨Nat.le_of_ble_eq_true rfl, Nat.le_of_ble_eq_true rfl⟩)) (fun r2 er2 => ?_)
    subst er2
    refine lv_istore_n (lv' := [(3, .int (m_linked ((m_room x 3).1) a1)), (0, .ref mo), (1, .int a1), (2, .int a2)]) hx hb d_Mo_enter_13 rfl hl (by decide) rfl (fun ls hl => ?_)
    refine lv_aload_n hx hb d_Mo_enter_14 rfl (lv_at hl 1 rfl) ?_
    refine nm_getA hx hb hg hown hK hP 40 (by decide) (by decide) (hg _ mw_930) d_Mo_enter_15 ?_
    refine lv_aload_n hx hb d_Mo_enter_18 rfl (lv_at hl 1 rfl) ?_
    refine nm_get hx hb hg hown hK hP 37 (by decide) (by decide) (hg _ mw_927) d_Mo_enter_19 ?_
    refine lv_iconst (v := 1) hx hb d_Mo_enter_22 (by decide) ?_
    refine lv_iadd hx hb d_Mo_enter_23 ?_
    refine lv_iload_n hx hb d_Mo_enter_24 rfl (lv_at hl 0 rfl) ?_
    obtain ⟨hi, hk⟩ := hk
    refine nm_st hx hb hK hP hD hS 40 15 rfl (by decide) hi d_Mo_enter_25 (fun H locs hP hD hS => ?_)
    refine lv_aload_n hx hb d_Mo_enter_26 rfl (lv_at hl 1 rfl) ?_
    refine nm_getA hx hb hg hown hK hP 40 (by decide) (by decide) (hg _ mw_930) d_Mo_enter_27 ?_
    refine lv_aload_n hx hb d_Mo_enter_30 rfl (lv_at hl 1 rfl) ?_
    refine nm_get hx hb hg hown hK hP 37 (by decide) (by decide) (hg _ mw_927) d_Mo_enter_31 ?_
    refine nb_top (((m_room x 3).1).1 37) rfl ?_
    refine lv_iconst (v := 2) hx hb d_Mo_enter_34 (by decide) ?_
    refine lv_iadd hx hb d_Mo_enter_35 ?_
    refine lv_aload_n hx hb d_Mo_enter_36 rfl (lv_at hl 1 rfl) ?_
    refine nm_get hx hb hg hown hK hP 36 (by decide) (by decide) (hg _ mw_926) d_Mo_enter_37 ?_
    refine nb_top (((m_room x 3).1).1 36) rfl ?_
    obtain ⟨hi, hk⟩ := hk
    refine nm_st hx hb hK hP hD hS 40 15 rfl (by decide) hi d_Mo_enter_40 (fun H locs hP hD hS => ?_)
    refine lv_aload_n hx hb d_Mo_enter_41 rfl (lv_at hl 1 rfl) ?_
    refine nm_getA hx hb hg hown hK hP 40 (by decide) (by decide) (hg _ mw_930) d_Mo_enter_42 ?_
    refine lv_aload_n hx hb d_Mo_enter_45 rfl (lv_at hl 1 rfl) ?_
    refine nm_get hx hb hg hown hK hP 37 (by decide) (by decide) (hg _ mw_927) d_Mo_enter_46 ?_
    refine nb_top (((m_room x 3).1).1 37) rfl ?_
    refine lv_iconst (v := 3) hx hb d_Mo_enter_49 (by decide) ?_
    refine lv_iadd hx hb d_Mo_enter_50 ?_
    refine lv_aload_n hx hb d_Mo_enter_51 rfl (lv_at hl 1 rfl) ?_
    refine nm_get hx hb hg hown hK hP 35 (by decide) (by decide) (hg _ mw_925) d_Mo_enter_52 ?_
    refine nb_top (((m_room x 3).1).1 35) rfl ?_
    refine lv_iconst (v := 1) hx hb d_Mo_enter_55 (by decide) ?_
    refine lv_iadd hx hb d_Mo_enter_56 ?_
    obtain ⟨hi, hk⟩ := hk
    refine nm_st hx hb hK hP hD hS 40 15 rfl (by decide) hi d_Mo_enter_57 (fun H locs hP hD hS => ?_)
    refine lv_aload_n hx hb d_Mo_enter_58 rfl (lv_at hl 1 rfl) ?_
    refine lv_aload_n hx hb d_Mo_enter_59 rfl (lv_at hl 1 rfl) ?_
    refine nm_get hx hb hg hown hK hP 37 (by decide) (by decide) (hg _ mw_927) d_Mo_enter_60 ?_
    refine nb_top (((m_room x 3).1).1 37) rfl ?_
    refine lv_iconst (v := 1) hx hb d_Mo_enter_63 (by decide) ?_
    refine lv_iadd hx hb d_Mo_enter_64 ?_
    refine nm_put hx hb hg hown hK hP hD hS 36 (by decide) (by decide) (by decide) (hg _ mw_926) d_Mo_enter_65 (fun H locs hP hD hS => ?_)
    refine lv_aload_n hx hb d_Mo_enter_68 rfl (lv_at hl 1 rfl) ?_
    refine lv_iload_n hx hb d_Mo_enter_69 rfl (lv_at hl 3 rfl) ?_
    refine nm_put hx hb hg hown hK hP hD hS 35 (by decide) (by decide) (by decide) (hg _ mw_925) d_Mo_enter_70 (fun H locs hP hD hS => ?_)
    refine lv_aload_n hx hb d_Mo_enter_73 rfl (lv_at hl 1 rfl) ?_
    refine lv_dup hx hb d_Mo_enter_74 rfl ?_
    refine nm_get hx hb hg hown hK hP 38 (by decide) (by decide) (hg _ mw_928) d_Mo_enter_75 ?_
    refine nb_top (((m_room x 3).1).1 38) rfl ?_
    refine lv_iconst (v := 1) hx hb d_Mo_enter_78 (by decide) ?_
    refine lv_iadd hx hb d_Mo_enter_79 ?_
    refine nm_put hx hb hg hown hK hP hD hS 38 (by decide) (by decide) (by decide) (hg _ mw_928) d_Mo_enter_80 (fun H locs hP hD hS => ?_)
    have hR : m_enter x a1 a2 = nm_f (nm_f (nm_f (nm_a (nm_a (nm_a ((m_room x 3).1) 40 ((((m_room x 3).1).1 37) + 1) (m_linked ((m_room x 3).1) a1)) 40 ((((m_room x 3).1).1 37) + 2) (((m_room x 3).1).1 36)) 40 ((((m_room x 3).1).1 37) + 3) ((((m_room x 3).1).1 35) + 1)) 36 ((((m_room x 3).1).1 37) + 1)) 35 a2) 38 ((((m_room x 3).1).1 38) + 1) := by rw [m_enter]; rw [if_neg hc5]
    refine nm_W1 hR ?_
    exact W.vret hx hb hr (fun t ht hW => ⟨⟨(), rfl, trivial, ⟨by rw [ht]; exact hP, hD⟩⟩, hS.F ht⟩) hS.2.2 d_Mo_enter_83

theorem d_Mo_more_0 : decode b_Mo_more 0 = .ok (.aload_n 0, 1) := by decide +kernel
theorem d_Mo_more_1 : decode b_Mo_more 1 = .ok (.iload_n 1, 1) := by decide +kernel
theorem d_Mo_more_2 : decode b_Mo_more 2 = .ok (.invokevirtual 254, 3) := by decide +kernel
theorem d_Mo_more_5 : decode b_Mo_more 5 = .ok (.ifCond .eq 48, 3) := by decide +kernel
theorem d_Mo_more_8 : decode b_Mo_more 8 = .ok (.iconst 4, 1) := by decide +kernel
theorem d_Mo_more_9 : decode b_Mo_more 9 = .ok (.istore_n 2, 1) := by decide +kernel
theorem d_Mo_more_10 : decode b_Mo_more 10 = .ok (.iload_n 2, 1) := by decide +kernel
theorem d_Mo_more_11 : decode b_Mo_more 11 = .ok (.iload_n 1, 1) := by decide +kernel
theorem d_Mo_more_12 : decode b_Mo_more 12 = .ok (.if_icmp .gt 21, 3) := by decide +kernel
theorem d_Mo_more_15 : decode b_Mo_more 15 = .ok (.aload_n 0, 1) := by decide +kernel
theorem d_Mo_more_16 : decode b_Mo_more 16 = .ok (.getfield 66, 3) := by decide +kernel
theorem d_Mo_more_19 : decode b_Mo_more 19 = .ok (.aload_n 0, 1) := by decide +kernel
theorem d_Mo_more_20 : decode b_Mo_more 20 = .ok (.getfield 63, 3) := by decide +kernel
theorem d_Mo_more_23 : decode b_Mo_more 23 = .ok (.iload_n 2, 1) := by decide +kernel
theorem d_Mo_more_24 : decode b_Mo_more 24 = .ok (.iadd, 1) := by decide +kernel
theorem d_Mo_more_25 : decode b_Mo_more 25 = .ok (.iconst 0, 1) := by decide +kernel
theorem d_Mo_more_26 : decode b_Mo_more 26 = .ok (.iastore, 1) := by decide +kernel
theorem d_Mo_more_27 : decode b_Mo_more 27 = .ok (.iinc 2 1, 3) := by decide +kernel
theorem d_Mo_more_30 : decode b_Mo_more 30 = .ok (.goto (-20), 3) := by decide +kernel
theorem d_Mo_more_33 : decode b_Mo_more 33 = .ok (.aload_n 0, 1) := by decide +kernel
theorem d_Mo_more_34 : decode b_Mo_more 34 = .ok (.dup, 1) := by decide +kernel
theorem d_Mo_more_35 : decode b_Mo_more 35 = .ok (.getfield 63, 3) := by decide +kernel
theorem d_Mo_more_38 : decode b_Mo_more 38 = .ok (.iload_n 1, 1) := by decide +kernel
theorem d_Mo_more_39 : decode b_Mo_more 39 = .ok (.iadd, 1) := by decide +kernel
theorem d_Mo_more_40 : decode b_Mo_more 40 = .ok (.putfield 63, 3) := by decide +kernel
theorem d_Mo_more_43 : decode b_Mo_more 43 = .ok (.aload_n 0, 1) := by decide +kernel
theorem d_Mo_more_44 : decode b_Mo_more 44 = .ok (.dup, 1) := by decide +kernel
theorem d_Mo_more_45 : decode b_Mo_more 45 = .ok (.getfield 242, 3) := by decide +kernel
theorem d_Mo_more_48 : decode b_Mo_more 48 = .ok (.iconst 1, 1) := by decide +kernel
theorem d_Mo_more_49 : decode b_Mo_more 49 = .ok (.iadd, 1) := by decide +kernel
theorem d_Mo_more_50 : decode b_Mo_more 50 = .ok (.putfield 242, 3) := by decide +kernel
theorem d_Mo_more_53 : decode b_Mo_more 53 = .ok (.return_, 1) := by decide +kernel

def k_more_10 : Nat → nM → Int32 → Int32 → nM
  | 0, x, v1, v2 => x
  | n + 1, x, v1, v2 => (if v1 < v2 then (nm_f (nm_f x 37 ((x.1 37) + v1)) 35 ((x.1 35) + 1)) else k_more_10 n (nm_a x 40 ((x.1 37) + v2) 0) v1 (v2 + 1))
def p_more_10 : Nat → nM → Int32 → Int32 → Prop
  | 0, _, _, _ => False
  | n + 1, x, v1, v2 => ((v1 < v2 → True) ∧ (¬ (v1 < v2) → vp_in ((x.1 37) + v2) 200 ∧ p_more_10 n (nm_a x 40 ((x.1 37) + v2) 0) v1 (v2 + 1)))
def m_more (x : nM) (a1 : Int32) : nM := (if (m_room x a1).2 = 0 then ((m_room x a1).1) else k_more_10 300 ((m_room x a1).1) a1 4)
def o_more (x : nM) (a1 : Int32) : Prop := o_room x a1 ∧ (((m_room x a1).2 = 0 → True) ∧ (¬ ((m_room x a1).2 = 0) → p_more_10 300 ((m_room x a1).1) a1 4))
set_option maxHeartbeats 4000000 in
set_option maxRecDepth 100000 in
theorem t_more (l : Launch) (G : nn_G) (sz : Nat) (mo : Nat) (ad : Nat → Nat) (x : nM) (a1 : Int32) (hk : o_more x a1) : Met l y_Mo_more w_Mo_more ({ frames := 1, cells := 0, slots := 0, locals := 21 }) (nn_P G [.ref mo, .int a1] (nm_W G mo ad x) sz) (nm_Qv G mo ad (m_more x a1) (va_A (nm_W G mo ad x) sz)) 0 0 (va_A (nm_W G mo ad x) sz) := by
  refine Met.ofW (cc := b_Mo_more) (maxL := 3) (ret := none) (by decide) rfl ?_
  intro p e s m args below meth c s₁ B hml hv
  obtain ⟨rfl, hsz, hP, hK, hD0, hN⟩ := hv
  have hx := B.exec
  have hb := B.bytes
  have hr := B.returns
  have hts := atoms_spec (ws := w_Mo_more) B.pre
  have hg : ∀ w ∈ nn_gw, w.before _ s = true := fun w h => hts w (List.mem_cons_of_mem _ h)
  have hown : s.vm.findClass R_Mo = some m.cls := findClass_of_methodNamed B.named
  subst hsz
  have hD := hD0.self (sz := s.heap.size)
  generalize hAe : va_A (nm_W G mo ad x) s.heap.size = A at hD ⊢
  have hA : ∀ q : Nat, s.heap.size ≤ q → A q := fun q h => by rw [← hAe]; exact Or.inr h
  clear hAe
  have hS : va_S A s.heap s.heap [] := va_S.rf
  have hP : va_P G.1 nn_cls (nm_W G mo ad x) s.heap := hP
  have hl := lv_entry ([.ref mo, .int a1]) (n := 3) (Nat.le_of_ble_eq_true rfl)
  rw [lg_entry_eq]
  generalize (lg_sl ([.ref mo, .int a1]) ++ List.replicate (3 - (lg_sl ([.ref mo, .int a1])).length) Slot.unset).toArray = ls at hl ⊢
  have hl : lv_has ls 3 [(0, .ref mo), (1, .int a1)] := hl
  have J10 : ∀ (n : Nat) (x : nM) (v1 : Int32) (v2 : Int32) (ls : Array Slot) (H : Heap) (locs : List Loc), p_more_10 n x v1 v2 → lv_has ls 3 [(0, .ref mo), (1, .int v1), (2, .int v2)] → va_P G.1 nn_cls (nm_W G mo ad x) H → va_D A (nm_W G mo ad x) → va_S A s.heap H locs → W p l e (headSpec w_Mo_more ({ frames := 1, cells := 0, slots := 0, locals := 21 })).room s m [.ref mo, .int a1].toArray below meth c H locs 0 0 (MQ below (nm_Qv G mo ad (k_more_10 n x v1 v2) A) [.ref mo, .int a1].toArray s 0 0 A) (F0 m 10 ls []) := by
    intro n
    induction n with
    | zero =>
      intro x v1 v2 ls H locs hk
      exact (show False from hk).elim
    | succ n ih =>
      intro x v1 v2 ls H locs hk hl hP hD hS
      unfold p_more_10 at hk
      refine lv_iload_n hx hb d_Mo_more_10 rfl (lv_at hl 2 rfl) ?_
      refine lv_iload_n hx hb d_Mo_more_11 rfl (lv_at hl 1 rfl) ?_
      refine lv_icmp_gt (tgt := 33) hx hb d_Mo_more_12 rfl (fun hc12 => ?_) (fun hc12 => ?_)
      · skip
        have hk := hk.1 hc12
        refine lv_aload_n hx hb d_Mo_more_33 rfl (lv_at hl 0 rfl) ?_
        refine lv_dup hx hb d_Mo_more_34 rfl ?_
        refine nm_get hx hb hg hown hK hP 37 (by decide) (by decide) (hg _ mw_927) d_Mo_more_35 ?_
        refine lv_iload_n hx hb d_Mo_more_38 rfl (lv_at hl 1 rfl) ?_
        refine lv_iadd hx hb d_Mo_more_39 ?_
        refine nm_put hx hb hg hown hK hP hD hS 37 (by decide) (by decide) (by decide) (hg _ mw_927) d_Mo_more_40 (fun H locs hP hD hS => ?_)
        refine lv_aload_n hx hb d_Mo_more_43 rfl (lv_at hl 0 rfl) ?_
        refine lv_dup hx hb d_Mo_more_44 rfl ?_
        refine nm_get hx hb hg hown hK hP 35 (by decide) (by decide) (hg _ mw_925) d_Mo_more_45 ?_
        refine nb_top (x.1 35) rfl ?_
        refine lv_iconst (v := 1) hx hb d_Mo_more_48 (by decide) ?_
        refine lv_iadd hx hb d_Mo_more_49 ?_
        refine nm_put hx hb hg hown hK hP hD hS 35 (by decide) (by decide) (by decide) (hg _ mw_925) d_Mo_more_50 (fun H locs hP hD hS => ?_)
        have hR : k_more_10 (n + 1) x v1 v2 = nm_f (nm_f x 37 ((x.1 37) + v1)) 35 ((x.1 35) + 1) := by rw [k_more_10]; rw [if_pos hc12]
        refine nm_W1 hR ?_
        exact W.vret hx hb hr (fun t ht hW => ⟨⟨(), rfl, trivial, ⟨by rw [ht]; exact hP, hD⟩⟩, hS.F ht⟩) hS.2.2 d_Mo_more_53
      · skip
        have hk := hk.2 hc12
        refine lv_aload_n hx hb d_Mo_more_15 rfl (lv_at hl 0 rfl) ?_
        refine nm_getA hx hb hg hown hK hP 40 (by decide) (by decide) (hg _ mw_930) d_Mo_more_16 ?_
        refine lv_aload_n hx hb d_Mo_more_19 rfl (lv_at hl 0 rfl) ?_
        refine nm_get hx hb hg hown hK hP 37 (by decide) (by decide) (hg _ mw_927) d_Mo_more_20 ?_
        refine lv_iload_n hx hb d_Mo_more_23 rfl (lv_at hl 2 rfl) ?_
        refine lv_iadd hx hb d_Mo_more_24 ?_
        refine lv_iconst (v := 0) hx hb d_Mo_more_25 (by decide) ?_
        obtain ⟨hi, hk⟩ := hk
        refine nm_st hx hb hK hP hD hS 40 15 rfl (by decide) hi d_Mo_more_26 (fun H locs hP hD hS => ?_)
        refine lv_iinc (k := 2) (v := v2 + 1) (lv' := [(2, .int (v2 + 1)), (0, .ref mo), (1, .int v1)]) hx hb d_Mo_more_27 hl rfl (rfl) (by decide) rfl (fun ls hl => ?_)
        refine lv_goto (tgt := 10) hx hb d_Mo_more_30 rfl ?_
        have hl := lv_sub (l' := [(0, .ref mo), (1, .int v1), (2, .int (v2 + 1))]) hl [1, 2, 0] rfl
        have hR : k_more_10 (n + 1) x v1 v2 = k_more_10 n (nm_a x 40 ((x.1 37) + v2) 0) v1 (v2 + 1) := by rw [k_more_10]; rw [if_neg hc12]
        exact nm_W1 hR (ih (nm_a x 40 ((x.1 37) + v2) 0) v1 (v2 + 1) ls _ _ hk hl hP hD hS)
  unfold o_more at hk
  refine lv_aload_n hx hb d_Mo_more_0 rfl (lv_at hl 0 rfl) ?_
  refine lv_iload_n hx hb d_Mo_more_1 rfl (lv_at hl 1 rfl) ?_
  obtain ⟨hi, hk⟩ := hk
  have hFc := nm_free hD hS hA
  refine va_calli (va_runV (As := [.int a1]) (rest := []) ⟨hx, hb, hml, hown, hts⟩ (t_room l G _ mo ad x a1 hi) (cwV 1 hts (nn_gV mw_1188 mw_1185 mw_1187 mw_79 mw_94) rfl rfl rfl (by decide +kernel) ⟨Nat.le_of_ble_eq_true rfl, Nat.le_of_ble_eq_true rfl⟩) (nn_preV (va_recv hK hP rfl (q0 := 0) rfl) hP hD hK hN) rfl rfl hl.1 rfl (lv_room (Nat.le_of_ble_eq_true rfl)) d_Mo_more_2 ⟨Nat.le_of_ble_eq_true rfl, Nat.le_of_ble_eq_true rfl⟩) hS (fun q _ h => hFc q h) hFc (fun r1 u t H locs ht hvm hw hB hz1 hk1 hS => ?_)
  subst hw
  obtain ⟨hP1, hD1⟩ := hB
  rw [ht] at hP1
  have hP := hP1
  have hD := hD1.weaken (fun _ _ _ h => hFc _ h)
  refine lv_if_eq (tgt := 53) hx hb d_Mo_more_5 rfl (fun hc5 => ?_) (fun hc5 => ?_)
  · skip
    have hk := hk.1 hc5
    have hR : m_more x a1 = (m_room x a1).1 := by rw [m_more]; rw [if_pos hc5]
    refine nm_W1 hR ?_
    exact W.vret hx hb hr (fun t ht hW => ⟨⟨(), rfl, trivial, ⟨by rw [ht]; exact hP, hD⟩⟩, hS.F ht⟩) hS.2.2 d_Mo_more_53
  · skip
    have hk := hk.2 hc5
    refine lv_iconst (v := 4) hx hb d_Mo_more_8 (by decide) ?_
    refine lv_istore_n (lv' := [(2, .int 4), (0, .ref mo), (1, .int a1)]) hx hb d_Mo_more_9 rfl hl (by decide) rfl (fun ls hl => ?_)
    have hl := lv_sub (l' := [(0, .ref mo), (1, .int a1), (2, .int 4)]) hl [1, 2, 0] rfl
    have hR : m_more x a1 = k_more_10 300 ((m_room x a1).1) a1 4 := by rw [m_more]; rw [if_neg hc5]
    exact nm_W1 hR (J10 300 ((m_room x a1).1) a1 4 ls _ _ hk hl hP hD hS)

theorem d_Mo_leave_0 : decode b_Mo_leave 0 = .ok (.aload_n 0, 1) := by decide +kernel
theorem d_Mo_leave_1 : decode b_Mo_leave 1 = .ok (.getfield 245, 3) := by decide +kernel
theorem d_Mo_leave_4 : decode b_Mo_leave 4 = .ok (.istore_n 2, 1) := by decide +kernel
theorem d_Mo_leave_5 : decode b_Mo_leave 5 = .ok (.aload_n 0, 1) := by decide +kernel
theorem d_Mo_leave_6 : decode b_Mo_leave 6 = .ok (.aload_n 0, 1) := by decide +kernel
theorem d_Mo_leave_7 : decode b_Mo_leave 7 = .ok (.getfield 66, 3) := by decide +kernel
theorem d_Mo_leave_10 : decode b_Mo_leave 10 = .ok (.iload_n 2, 1) := by decide +kernel
theorem d_Mo_leave_11 : decode b_Mo_leave 11 = .ok (.iconst 2, 1) := by decide +kernel
theorem d_Mo_leave_12 : decode b_Mo_leave 12 = .ok (.iadd, 1) := by decide +kernel
theorem d_Mo_leave_13 : decode b_Mo_leave 13 = .ok (.iaload, 1) := by decide +kernel
theorem d_Mo_leave_14 : decode b_Mo_leave 14 = .ok (.putfield 242, 3) := by decide +kernel
theorem d_Mo_leave_17 : decode b_Mo_leave 17 = .ok (.aload_n 0, 1) := by decide +kernel
theorem d_Mo_leave_18 : decode b_Mo_leave 18 = .ok (.aload_n 0, 1) := by decide +kernel
theorem d_Mo_leave_19 : decode b_Mo_leave 19 = .ok (.getfield 66, 3) := by decide +kernel
theorem d_Mo_leave_22 : decode b_Mo_leave 22 = .ok (.iload_n 2, 1) := by decide +kernel
theorem d_Mo_leave_23 : decode b_Mo_leave 23 = .ok (.iconst 1, 1) := by decide +kernel
theorem d_Mo_leave_24 : decode b_Mo_leave 24 = .ok (.iadd, 1) := by decide +kernel
theorem d_Mo_leave_25 : decode b_Mo_leave 25 = .ok (.iaload, 1) := by decide +kernel
theorem d_Mo_leave_26 : decode b_Mo_leave 26 = .ok (.putfield 245, 3) := by decide +kernel
theorem d_Mo_leave_29 : decode b_Mo_leave 29 = .ok (.aload_n 0, 1) := by decide +kernel
theorem d_Mo_leave_30 : decode b_Mo_leave 30 = .ok (.iload_n 2, 1) := by decide +kernel
theorem d_Mo_leave_31 : decode b_Mo_leave 31 = .ok (.iconst 1, 1) := by decide +kernel
theorem d_Mo_leave_32 : decode b_Mo_leave 32 = .ok (.isub, 1) := by decide +kernel
theorem d_Mo_leave_33 : decode b_Mo_leave 33 = .ok (.iload_n 1, 1) := by decide +kernel
theorem d_Mo_leave_34 : decode b_Mo_leave 34 = .ok (.isub, 1) := by decide +kernel
theorem d_Mo_leave_35 : decode b_Mo_leave 35 = .ok (.putfield 63, 3) := by decide +kernel
theorem d_Mo_leave_38 : decode b_Mo_leave 38 = .ok (.aload_n 0, 1) := by decide +kernel
theorem d_Mo_leave_39 : decode b_Mo_leave 39 = .ok (.dup, 1) := by decide +kernel
theorem d_Mo_leave_40 : decode b_Mo_leave 40 = .ok (.getfield 248, 3) := by decide +kernel
theorem d_Mo_leave_43 : decode b_Mo_leave 43 = .ok (.iconst 1, 1) := by decide +kernel
theorem d_Mo_leave_44 : decode b_Mo_leave 44 = .ok (.isub, 1) := by decide +kernel
theorem d_Mo_leave_45 : decode b_Mo_leave 45 = .ok (.putfield 248, 3) := by decide +kernel
theorem d_Mo_leave_48 : decode b_Mo_leave 48 = .ok (.aload_n 0, 1) := by decide +kernel
theorem d_Mo_leave_49 : decode b_Mo_leave 49 = .ok (.aload_n 0, 1) := by decide +kernel
theorem d_Mo_leave_50 : decode b_Mo_leave 50 = .ok (.getfield 248, 3) := by decide +kernel
theorem d_Mo_leave_53 : decode b_Mo_leave 53 = .ok (.ifCond .ne 7, 3) := by decide +kernel
theorem d_Mo_leave_56 : decode b_Mo_leave 56 = .ok (.iconst 2, 1) := by decide +kernel
theorem d_Mo_leave_57 : decode b_Mo_leave 57 = .ok (.goto 7, 3) := by decide +kernel
theorem d_Mo_leave_60 : decode b_Mo_leave 60 = .ok (.aload_n 0, 1) := by decide +kernel
theorem d_Mo_leave_61 : decode b_Mo_leave 61 = .ok (.getfield 239, 3) := by decide +kernel
theorem d_Mo_leave_64 : decode b_Mo_leave 64 = .ok (.putfield 239, 3) := by decide +kernel
theorem d_Mo_leave_67 : decode b_Mo_leave 67 = .ok (.return_, 1) := by decide +kernel

def k_leave_64 (x : nM) (w0 : Int32) : nM := (nm_f x 34 w0)
def p_leave_64 (x : nM) (w0 : Int32) : Prop := True
def m_leave (x : nM) (a1 : Int32) : nM := (if (x.1 38) - 1 = 0 then k_leave_64 (nm_f (nm_f (nm_f (nm_f x 35 (nm_g x 40 ((x.1 36) + 2))) 36 (nm_g x 40 ((x.1 36) + 1))) 37 (((x.1 36) - 1) - a1)) 38 ((x.1 38) - 1)) 2 else k_leave_64 (nm_f (nm_f (nm_f (nm_f x 35 (nm_g x 40 ((x.1 36) + 2))) 36 (nm_g x 40 ((x.1 36) + 1))) 37 (((x.1 36) - 1) - a1)) 38 ((x.1 38) - 1)) (x.1 34))
def o_leave (x : nM) (a1 : Int32) : Prop := vp_in ((x.1 36) + 2) 200 ∧ vp_in ((x.1 36) + 1) 200 ∧ (((x.1 38) - 1 = 0 → p_leave_64 (nm_f (nm_f (nm_f (nm_f x 35 (nm_g x 40 ((x.1 36) + 2))) 36 (nm_g x 40 ((x.1 36) + 1))) 37 (((x.1 36) - 1) - a1)) 38 ((x.1 38) - 1)) 2) ∧ (¬ ((x.1 38) - 1 = 0) → p_leave_64 (nm_f (nm_f (nm_f (nm_f x 35 (nm_g x 40 ((x.1 36) + 2))) 36 (nm_g x 40 ((x.1 36) + 1))) 37 (((x.1 36) - 1) - a1)) 38 ((x.1 38) - 1)) (x.1 34)))
set_option maxHeartbeats 4000000 in
set_option maxRecDepth 100000 in
theorem t_leave (l : Launch) (G : nn_G) (sz : Nat) (mo : Nat) (ad : Nat → Nat) (x : nM) (a1 : Int32) (hk : o_leave x a1) : Met l y_Mo_leave w_Mo_leave ({ frames := 0, cells := 0, slots := 0, locals := 0 }) (nn_P G [.ref mo, .int a1] (nm_W G mo ad x) sz) (nm_Qv G mo ad (m_leave x a1) (va_A (nm_W G mo ad x) sz)) 0 0 (va_A (nm_W G mo ad x) sz) := by
  refine Met.ofW (cc := b_Mo_leave) (maxL := 3) (ret := none) (by decide) rfl ?_
  intro p e s m args below meth c s₁ B hml hv
  obtain ⟨rfl, hsz, hP, hK, hD0, hN⟩ := hv
  have hx := B.exec
  have hb := B.bytes
  have hr := B.returns
  have hts := atoms_spec (ws := w_Mo_leave) B.pre
  have hg : ∀ w ∈ nn_gw, w.before _ s = true := fun w h => hts w (List.mem_cons_of_mem _ h)
  have hown : s.vm.findClass R_Mo = some m.cls := findClass_of_methodNamed B.named
  subst hsz
  have hD := hD0.self (sz := s.heap.size)
  generalize hAe : va_A (nm_W G mo ad x) s.heap.size = A at hD ⊢
  have hA : ∀ q : Nat, s.heap.size ≤ q → A q := fun q h => by rw [← hAe]; exact Or.inr h
  clear hAe
  have hS : va_S A s.heap s.heap [] := va_S.rf
  have hP : va_P G.1 nn_cls (nm_W G mo ad x) s.heap := hP
  have hl := lv_entry ([.ref mo, .int a1]) (n := 3) (Nat.le_of_ble_eq_true rfl)
  rw [lg_entry_eq]
  generalize (lg_sl ([.ref mo, .int a1]) ++ List.replicate (3 - (lg_sl ([.ref mo, .int a1])).length) Slot.unset).toArray = ls at hl ⊢
  have hl : lv_has ls 3 [(0, .ref mo), (1, .int a1)] := hl
  have J64 : ∀ (x : nM) (w0 : Int32) (ls : Array Slot) (H : Heap) (locs : List Loc), p_leave_64 x w0 → lv_has ls 3 [] → va_P G.1 nn_cls (nm_W G mo ad x) H → va_D A (nm_W G mo ad x) → va_S A s.heap H locs → W p l e (headSpec w_Mo_leave ({ frames := 0, cells := 0, slots := 0, locals := 0 })).room s m [.ref mo, .int a1].toArray below meth c H locs 0 0 (MQ below (nm_Qv G mo ad (k_leave_64 x w0) A) [.ref mo, .int a1].toArray s 0 0 A) (F0 m 64 ls [.int w0, .ref mo]) := by
    intro x w0 ls H locs hk hl hP hD hS
    unfold p_leave_64 at hk
    refine nm_put hx hb hg hown hK hP hD hS 34 (by decide) (by decide) (by decide) (hg _ mw_924) d_Mo_leave_64 (fun H locs hP hD hS => ?_)
    have hR : k_leave_64 x w0 = nm_f x 34 w0 := by rw [k_leave_64]
    refine nm_W1 hR ?_
    exact W.vret hx hb hr (fun t ht hW => ⟨⟨(), rfl, trivial, ⟨by rw [ht]; exact hP, hD⟩⟩, hS.F ht⟩) hS.2.2 d_Mo_leave_67
  unfold o_leave at hk
  refine lv_aload_n hx hb d_Mo_leave_0 rfl (lv_at hl 0 rfl) ?_
  refine nm_get hx hb hg hown hK hP 36 (by decide) (by decide) (hg _ mw_926) d_Mo_leave_1 ?_
  refine lv_istore_n (lv' := [(2, .int (x.1 36)), (0, .ref mo), (1, .int a1)]) hx hb d_Mo_leave_4 rfl hl (by decide) rfl (fun ls hl => ?_)
  refine lv_aload_n hx hb d_Mo_leave_5 rfl (lv_at hl 1 rfl) ?_
  refine lv_aload_n hx hb d_Mo_leave_6 rfl (lv_at hl 1 rfl) ?_
  refine nm_getA hx hb hg hown hK hP 40 (by decide) (by decide) (hg _ mw_930) d_Mo_leave_7 ?_
  refine lv_iload_n hx hb d_Mo_leave_10 rfl (lv_at hl 0 rfl) ?_
  refine lv_iconst (v := 2) hx hb d_Mo_leave_11 (by decide) ?_
  refine lv_iadd hx hb d_Mo_leave_12 ?_
  obtain ⟨hi, hk⟩ := hk
  refine nm_ld hx hb hK hP 40 15 rfl (by decide) hi d_Mo_leave_13 ?_
  refine nm_put hx hb hg hown hK hP hD hS 35 (by decide) (by decide) (by decide) (hg _ mw_925) d_Mo_leave_14 (fun H locs hP hD hS => ?_)
  refine lv_aload_n hx hb d_Mo_leave_17 rfl (lv_at hl 1 rfl) ?_
  refine lv_aload_n hx hb d_Mo_leave_18 rfl (lv_at hl 1 rfl) ?_
  refine nm_getA hx hb hg hown hK hP 40 (by decide) (by decide) (hg _ mw_930) d_Mo_leave_19 ?_
  refine lv_iload_n hx hb d_Mo_leave_22 rfl (lv_at hl 0 rfl) ?_
  refine lv_iconst (v := 1) hx hb d_Mo_leave_23 (by decide) ?_
  refine lv_iadd hx hb d_Mo_leave_24 ?_
  obtain ⟨hi, hk⟩ := hk
  refine nm_ld hx hb hK hP 40 15 rfl (by decide) hi d_Mo_leave_25 ?_
  refine nb_top (nm_g x 40 ((x.1 36) + 1)) rfl ?_
  refine nm_put hx hb hg hown hK hP hD hS 36 (by decide) (by decide) (by decide) (hg _ mw_926) d_Mo_leave_26 (fun H locs hP hD hS => ?_)
  refine lv_aload_n hx hb d_Mo_leave_29 rfl (lv_at hl 1 rfl) ?_
  refine lv_iload_n hx hb d_Mo_leave_30 rfl (lv_at hl 0 rfl) ?_
  refine lv_iconst (v := 1) hx hb d_Mo_leave_31 (by decide) ?_
  refine lv_isub hx hb d_Mo_leave_32 ?_
  refine lv_iload_n hx hb d_Mo_leave_33 rfl (lv_at hl 2 rfl) ?_
  refine lv_isub hx hb d_Mo_leave_34 ?_
  refine nm_put hx hb hg hown hK hP hD hS 37 (by decide) (by decide) (by decide) (hg _ mw_927) d_Mo_leave_35 (fun H locs hP hD hS => ?_)
  refine lv_aload_n hx hb d_Mo_leave_38 rfl (lv_at hl 1 rfl) ?_
  refine lv_dup hx hb d_Mo_leave_39 rfl ?_
  refine nm_get hx hb hg hown hK hP 38 (by decide) (by decide) (hg _ mw_928) d_Mo_leave_40 ?_
  refine nb_top (x.1 38) rfl ?_
  refine lv_iconst (v := 1) hx hb d_Mo_leave_43 (by decide) ?_
  refine lv_isub hx hb d_Mo_leave_44 ?_
  refine nm_put hx hb hg hown hK hP hD hS 38 (by decide) (by decide) (by decide) (hg _ mw_928) d_Mo_leave_45 (fun H locs hP hD hS => ?_)
  refine lv_aload_n hx hb d_Mo_leave_48 rfl (lv_at hl 1 rfl) ?_
  refine lv_aload_n hx hb d_Mo_leave_49 rfl (lv_at hl 1 rfl) ?_
  refine nm_get hx hb hg hown hK hP 38 (by decide) (by decide) (hg _ mw_928) d_Mo_leave_50 ?_
  refine nb_top ((x.1 38) - 1) rfl ?_
  refine lv_if_ne (tgt := 60) hx hb d_Mo_leave_53 rfl (fun hc53 => ?_) (fun hc53 => ?_)
  · skip
    have hk := hk.2 hc53
    refine lv_aload_n hx hb d_Mo_leave_60 rfl (lv_at hl 1 rfl) ?_
    refine nm_get hx hb hg hown hK hP 34 (by decide) (by decide) (hg _ mw_924) d_Mo_leave_61 ?_
    refine nb_top (x.1 34) rfl ?_
    have hl := lv_sub (l' := []) hl [] rfl
    have hR : m_leave x a1 = k_leave_64 (nm_f (nm_f (nm_f (nm_f x 35 (nm_g x 40 ((x.1 36) + 2))) 36 (nm_g x 40 ((x.1 36) + 1))) 37 (((x.1 36) - 1) - a1)) 38 ((x.1 38) - 1)) (x.1 34) := by rw [m_leave]; rw [if_neg hc53]
    exact nm_W1 hR (J64 (nm_f (nm_f (nm_f (nm_f x 35 (nm_g x 40 ((x.1 36) + 2))) 36 (nm_g x 40 ((x.1 36) + 1))) 37 (((x.1 36) - 1) - a1)) 38 ((x.1 38) - 1)) (x.1 34) ls _ _ hk hl hP hD hS)
  · skip
    have hk := hk.1 hc53
    refine lv_iconst (v := 2) hx hb d_Mo_leave_56 (by decide) ?_
    refine lv_goto (tgt := 64) hx hb d_Mo_leave_57 rfl ?_
    have hl := lv_sub (l' := []) hl [] rfl
    have hR : m_leave x a1 = k_leave_64 (nm_f (nm_f (nm_f (nm_f x 35 (nm_g x 40 ((x.1 36) + 2))) 36 (nm_g x 40 ((x.1 36) + 1))) 37 (((x.1 36) - 1) - a1)) 38 ((x.1 38) - 1)) 2 := by rw [m_leave]; rw [if_pos hc53]
    exact nm_W1 hR (J64 (nm_f (nm_f (nm_f (nm_f x 35 (nm_g x 40 ((x.1 36) + 2))) 36 (nm_g x 40 ((x.1 36) + 1))) 37 (((x.1 36) - 1) - a1)) 38 ((x.1 38) - 1)) 2 ls _ _ hk hl hP hD hS)

theorem d_Mo_tell_0 : decode b_Mo_tell 0 = .ok (.bipush 7, 2) := by decide +kernel
theorem d_Mo_tell_2 : decode b_Mo_tell 2 = .ok (.istore_n 2, 1) := by decide +kernel
theorem d_Mo_tell_3 : decode b_Mo_tell 3 = .ok (.iload_n 2, 1) := by decide +kernel
theorem d_Mo_tell_4 : decode b_Mo_tell 4 = .ok (.ifCond .le 23, 3) := by decide +kernel
theorem d_Mo_tell_7 : decode b_Mo_tell 7 = .ok (.aload_n 0, 1) := by decide +kernel
theorem d_Mo_tell_8 : decode b_Mo_tell 8 = .ok (.getfield 69, 3) := by decide +kernel
theorem d_Mo_tell_11 : decode b_Mo_tell 11 = .ok (.iload_n 2, 1) := by decide +kernel
theorem d_Mo_tell_12 : decode b_Mo_tell 12 = .ok (.aload_n 0, 1) := by decide +kernel
theorem d_Mo_tell_13 : decode b_Mo_tell 13 = .ok (.getfield 69, 3) := by decide +kernel
theorem d_Mo_tell_16 : decode b_Mo_tell 16 = .ok (.iload_n 2, 1) := by decide +kernel
theorem d_Mo_tell_17 : decode b_Mo_tell 17 = .ok (.iconst 1, 1) := by decide +kernel
theorem d_Mo_tell_18 : decode b_Mo_tell 18 = .ok (.isub, 1) := by decide +kernel
theorem d_Mo_tell_19 : decode b_Mo_tell 19 = .ok (.iaload, 1) := by decide +kernel
theorem d_Mo_tell_20 : decode b_Mo_tell 20 = .ok (.iastore, 1) := by decide +kernel
theorem d_Mo_tell_21 : decode b_Mo_tell 21 = .ok (.iinc 2 (-1), 3) := by decide +kernel
theorem d_Mo_tell_24 : decode b_Mo_tell 24 = .ok (.goto (-21), 3) := by decide +kernel
theorem d_Mo_tell_27 : decode b_Mo_tell 27 = .ok (.aload_n 0, 1) := by decide +kernel
theorem d_Mo_tell_28 : decode b_Mo_tell 28 = .ok (.getfield 69, 3) := by decide +kernel
theorem d_Mo_tell_31 : decode b_Mo_tell 31 = .ok (.iconst 0, 1) := by decide +kernel
theorem d_Mo_tell_32 : decode b_Mo_tell 32 = .ok (.iload_n 1, 1) := by decide +kernel
theorem d_Mo_tell_33 : decode b_Mo_tell 33 = .ok (.iastore, 1) := by decide +kernel
theorem d_Mo_tell_34 : decode b_Mo_tell 34 = .ok (.aload_n 0, 1) := by decide +kernel
theorem d_Mo_tell_35 : decode b_Mo_tell 35 = .ok (.dup, 1) := by decide +kernel
theorem d_Mo_tell_36 : decode b_Mo_tell 36 = .ok (.getfield 251, 3) := by decide +kernel
theorem d_Mo_tell_39 : decode b_Mo_tell 39 = .ok (.iconst 1, 1) := by decide +kernel
theorem d_Mo_tell_40 : decode b_Mo_tell 40 = .ok (.iadd, 1) := by decide +kernel
theorem d_Mo_tell_41 : decode b_Mo_tell 41 = .ok (.putfield 251, 3) := by decide +kernel
theorem d_Mo_tell_44 : decode b_Mo_tell 44 = .ok (.return_, 1) := by decide +kernel

def k_tell_3 : Nat → nM → Int32 → Int32 → nM
  | 0, x, v1, v2 => x
  | n + 1, x, v1, v2 => (if v2 ≤ 0 then (nm_f (nm_a x 41 0 v1) 39 ((x.1 39) + 1)) else k_tell_3 n (nm_a x 41 v2 (nm_g x 41 (v2 - 1))) v1 (v2 + (-1)))
def p_tell_3 : Nat → nM → Int32 → Int32 → Prop
  | 0, _, _, _ => False
  | n + 1, x, v1, v2 => ((v2 ≤ 0 → vp_in 0 8 ∧ True) ∧ (¬ (v2 ≤ 0) → vp_in (v2 - 1) 8 ∧ vp_in v2 8 ∧ p_tell_3 n (nm_a x 41 v2 (nm_g x 41 (v2 - 1))) v1 (v2 + (-1))))
def m_tell (x : nM) (a1 : Int32) : nM := k_tell_3 300 x a1 7
def o_tell (x : nM) (a1 : Int32) : Prop := p_tell_3 300 x a1 7
set_option maxHeartbeats 4000000 in
set_option maxRecDepth 100000 in
theorem t_tell (l : Launch) (G : nn_G) (sz : Nat) (mo : Nat) (ad : Nat → Nat) (x : nM) (a1 : Int32) (hk : o_tell x a1) : Met l y_Mo_tell w_Mo_tell ({ frames := 0, cells := 0, slots := 0, locals := 0 }) (nn_P G [.ref mo, .int a1] (nm_W G mo ad x) sz) (nm_Qv G mo ad (m_tell x a1) (va_A (nm_W G mo ad x) sz)) 0 0 (va_A (nm_W G mo ad x) sz) := by
  refine Met.ofW (cc := b_Mo_tell) (maxL := 3) (ret := none) (by decide) rfl ?_
  intro p e s m args below meth c s₁ B hml hv
  obtain ⟨rfl, hsz, hP, hK, hD0, hN⟩ := hv
  have hx := B.exec
  have hb := B.bytes
  have hr := B.returns
  have hts := atoms_spec (ws := w_Mo_tell) B.pre
  have hg : ∀ w ∈ nn_gw, w.before _ s = true := fun w h => hts w (List.mem_cons_of_mem _ h)
  have hown : s.vm.findClass R_Mo = some m.cls := findClass_of_methodNamed B.named
  subst hsz
  have hD := hD0.self (sz := s.heap.size)
  generalize hAe : va_A (nm_W G mo ad x) s.heap.size = A at hD ⊢
  have hA : ∀ q : Nat, s.heap.size ≤ q → A q := fun q h => by rw [← hAe]; exact Or.inr h
  clear hAe
  have hS : va_S A s.heap s.heap [] := va_S.rf
  have hP : va_P G.1 nn_cls (nm_W G mo ad x) s.heap := hP
  have hl := lv_entry ([.ref mo, .int a1]) (n := 3) (Nat.le_of_ble_eq_true rfl)
  rw [lg_entry_eq]
  generalize (lg_sl ([.ref mo, .int a1]) ++ List.replicate (3 - (lg_sl ([.ref mo, .int a1])).length) Slot.unset).toArray = ls at hl ⊢
  have hl : lv_has ls 3 [(0, .ref mo), (1, .int a1)] := hl
  have J3 : ∀ (n : Nat) (x : nM) (v1 : Int32) (v2 : Int32) (ls : Array Slot) (H : Heap) (locs : List Loc), p_tell_3 n x v1 v2 → lv_has ls 3 [(0, .ref mo), (1, .int v1), (2, .int v2)] → va_P G.1 nn_cls (nm_W G mo ad x) H → va_D A (nm_W G mo ad x) → va_S A s.heap H locs → W p l e (headSpec w_Mo_tell ({ frames := 0, cells := 0, slots := 0, locals := 0 })).room s m [.ref mo, .int a1].toArray below meth c H locs 0 0 (MQ below (nm_Qv G mo ad (k_tell_3 n x v1 v2) A) [.ref mo, .int a1].toArray s 0 0 A) (F0 m 3 ls []) := by
    intro n
    induction n with
    | zero =>
      intro x v1 v2 ls H locs hk
      exact (show False from hk).elim
    | succ n ih =>
      intro x v1 v2 ls H locs hk hl hP hD hS
      unfold p_tell_3 at hk
      refine lv_iload_n hx hb d_Mo_tell_3 rfl (lv_at hl 2 rfl) ?_
      refine lv_if_le (tgt := 27) hx hb d_Mo_tell_4 rfl (fun hc4 => ?_) (fun hc4 => ?_)
      · skip
        have hk := hk.1 hc4
        refine lv_aload_n hx hb d_Mo_tell_27 rfl (lv_at hl 0 rfl) ?_
        refine nm_getA hx hb hg hown hK hP 41 (by decide) (by decide) (hg _ mw_931) d_Mo_tell_28 ?_
        refine lv_iconst (v := 0) hx hb d_Mo_tell_31 (by decide) ?_
        refine lv_iload_n hx hb d_Mo_tell_32 rfl (lv_at hl 1 rfl) ?_
        obtain ⟨hi, hk⟩ := hk
        refine nm_st hx hb hK hP hD hS 41 16 rfl (by decide) hi d_Mo_tell_33 (fun H locs hP hD hS => ?_)
        refine lv_aload_n hx hb d_Mo_tell_34 rfl (lv_at hl 0 rfl) ?_
        refine lv_dup hx hb d_Mo_tell_35 rfl ?_
        refine nm_get hx hb hg hown hK hP 39 (by decide) (by decide) (hg _ mw_929) d_Mo_tell_36 ?_
        refine nb_top (x.1 39) rfl ?_
        refine lv_iconst (v := 1) hx hb d_Mo_tell_39 (by decide) ?_
        refine lv_iadd hx hb d_Mo_tell_40 ?_
        refine nm_put hx hb hg hown hK hP hD hS 39 (by decide) (by decide) (by decide) (hg _ mw_929) d_Mo_tell_41 (fun H locs hP hD hS => ?_)
        have hR : k_tell_3 (n + 1) x v1 v2 = nm_f (nm_a x 41 0 v1) 39 ((x.1 39) + 1) := by rw [k_tell_3]; rw [if_pos hc4]
        refine nm_W1 hR ?_
        exact W.vret hx hb hr (fun t ht hW => ⟨⟨(), rfl, trivial, ⟨by rw [ht]; exact hP, hD⟩⟩, hS.F ht⟩) hS.2.2 d_Mo_tell_44
      · skip
        have hk := hk.2 hc4
        refine lv_aload_n hx hb d_Mo_tell_7 rfl (lv_at hl 0 rfl) ?_
        refine nm_getA hx hb hg hown hK hP 41 (by decide) (by decide) (hg _ mw_931) d_Mo_tell_8 ?_
        refine lv_iload_n hx hb d_Mo_tell_11 rfl (lv_at hl 2 rfl) ?_
        refine lv_aload_n hx hb d_Mo_tell_12 rfl (lv_at hl 0 rfl) ?_
        refine nm_getA hx hb hg hown hK hP 41 (by decide) (by decide) (hg _ mw_931) d_Mo_tell_13 ?_
        refine lv_iload_n hx hb d_Mo_tell_16 rfl (lv_at hl 2 rfl) ?_
        refine lv_iconst (v := 1) hx hb d_Mo_tell_17 (by decide) ?_
        refine lv_isub hx hb d_Mo_tell_18 ?_
        obtain ⟨hi, hk⟩ := hk
        refine nm_ld hx hb hK hP 41 16 rfl (by decide) hi d_Mo_tell_19 ?_
        obtain ⟨hi, hk⟩ := hk
        refine nm_st hx hb hK hP hD hS 41 16 rfl (by decide) hi d_Mo_tell_20 (fun H locs hP hD hS => ?_)
        refine lv_iinc (k := 2) (v := v2 + (-1)) (lv' := [(2, .int (v2 + (-1))), (0, .ref mo), (1, .int v1)]) hx hb d_Mo_tell_21 hl rfl (by rw [show Int32.ofInt (-1) = (-1 : Int32) by decide]) (by decide) rfl (fun ls hl => ?_)
        refine lv_goto (tgt := 3) hx hb d_Mo_tell_24 rfl ?_
        have hl := lv_sub (l' := [(0, .ref mo), (1, .int v1), (2, .int (v2 + (-1)))]) hl [1, 2, 0] rfl
        have hR : k_tell_3 (n + 1) x v1 v2 = k_tell_3 n (nm_a x 41 v2 (nm_g x 41 (v2 - 1))) v1 (v2 + (-1)) := by rw [k_tell_3]; rw [if_neg hc4]
        exact nm_W1 hR (ih (nm_a x 41 v2 (nm_g x 41 (v2 - 1))) v1 (v2 + (-1)) ls _ _ hk hl hP hD hS)
  unfold o_tell at hk
  refine lv_bipush (v := 7) hx hb d_Mo_tell_0 (by decide) ?_
  refine lv_istore_n (lv' := [(2, .int 7), (0, .ref mo), (1, .int a1)]) hx hb d_Mo_tell_2 rfl hl (by decide) rfl (fun ls hl => ?_)
  have hl := lv_sub (l' := [(0, .ref mo), (1, .int a1), (2, .int 7)]) hl [1, 2, 0] rfl
  have hR : m_tell x a1 = k_tell_3 300 x a1 7 := by rw [m_tell]
  exact nm_W1 hR (J3 300 x a1 7 ls _ _ hk hl hP hD hS)

theorem mw_84 : (.selects R_Mo y_Mo_leave y_Mo_leave : Cond) ∈ nn_gw := nn_at 84 (by decide +kernel) (by decide +kernel)
theorem mw_85 : (.selects R_Mo y_Mo_tell y_Mo_tell : Cond) ∈ nn_gw := nn_at 85 (by decide +kernel) (by decide +kernel)
theorem mw_1205 : (.methodLink R_Mo 260 y_Mo_leave : Cond) ∈ nn_gw := nn_at 1205 (by decide +kernel) (by decide +kernel)
theorem mw_1207 : (.instanceMethod y_Mo_leave : Cond) ∈ nn_gw := nn_at 1207 (by decide +kernel) (by decide +kernel)
set_option maxRecDepth 100000 in
theorem mw_1208 : (.code y_Mo_leave b_Mo_leave 3 none : Cond) ∈ nn_gw := nn_at 1208 (by rfl) (by decide +kernel)
theorem mw_1209 : (.methodLink R_Mo 263 y_Mo_tell : Cond) ∈ nn_gw := nn_at 1209 (by decide +kernel) (by decide +kernel)
theorem mw_1211 : (.instanceMethod y_Mo_tell : Cond) ∈ nn_gw := nn_at 1211 (by decide +kernel) (by decide +kernel)
set_option maxRecDepth 100000 in
theorem mw_1212 : (.code y_Mo_tell b_Mo_tell 3 none : Cond) ∈ nn_gw := nn_at 1212 (by rfl) (by decide +kernel)
theorem d_Mo_operation_0 : decode b_Mo_operation 0 = .ok (.iload_n 2, 1) := by decide +kernel
theorem d_Mo_operation_1 : decode b_Mo_operation 1 = .ok (.ifCond .ne 9, 3) := by decide +kernel
theorem d_Mo_operation_4 : decode b_Mo_operation 4 = .ok (.aload_n 0, 1) := by decide +kernel
theorem d_Mo_operation_5 : decode b_Mo_operation 5 = .ok (.iload_n 1, 1) := by decide +kernel
theorem d_Mo_operation_6 : decode b_Mo_operation 6 = .ok (.invokevirtual 260, 3) := by decide +kernel
theorem d_Mo_operation_9 : decode b_Mo_operation 9 = .ok (.return_, 1) := by decide +kernel
theorem d_Mo_operation_10 : decode b_Mo_operation 10 = .ok (.aload_n 0, 1) := by decide +kernel
theorem d_Mo_operation_11 : decode b_Mo_operation 11 = .ok (.getfield 66, 3) := by decide +kernel
theorem d_Mo_operation_14 : decode b_Mo_operation 14 = .ok (.aload_n 0, 1) := by decide +kernel
theorem d_Mo_operation_15 : decode b_Mo_operation 15 = .ok (.getfield 63, 3) := by decide +kernel
theorem d_Mo_operation_18 : decode b_Mo_operation 18 = .ok (.iaload, 1) := by decide +kernel
theorem d_Mo_operation_19 : decode b_Mo_operation 19 = .ok (.istore_n 3, 1) := by decide +kernel
theorem d_Mo_operation_20 : decode b_Mo_operation 20 = .ok (.aload_n 0, 1) := by decide +kernel
theorem d_Mo_operation_21 : decode b_Mo_operation 21 = .ok (.getfield 63, 3) := by decide +kernel
theorem d_Mo_operation_24 : decode b_Mo_operation 24 = .ok (.ifCond .le 17, 3) := by decide +kernel
theorem d_Mo_operation_27 : decode b_Mo_operation 27 = .ok (.aload_n 0, 1) := by decide +kernel
theorem d_Mo_operation_28 : decode b_Mo_operation 28 = .ok (.getfield 66, 3) := by decide +kernel
theorem d_Mo_operation_31 : decode b_Mo_operation 31 = .ok (.aload_n 0, 1) := by decide +kernel
theorem d_Mo_operation_32 : decode b_Mo_operation 32 = .ok (.getfield 63, 3) := by decide +kernel
theorem d_Mo_operation_35 : decode b_Mo_operation 35 = .ok (.iconst 1, 1) := by decide +kernel
theorem d_Mo_operation_36 : decode b_Mo_operation 36 = .ok (.isub, 1) := by decide +kernel
theorem d_Mo_operation_37 : decode b_Mo_operation 37 = .ok (.iaload, 1) := by decide +kernel
theorem d_Mo_operation_38 : decode b_Mo_operation 38 = .ok (.goto 4, 3) := by decide +kernel
theorem d_Mo_operation_41 : decode b_Mo_operation 41 = .ok (.iconst 0, 1) := by decide +kernel
theorem d_Mo_operation_42 : decode b_Mo_operation 42 = .ok (.istore 4, 2) := by decide +kernel
theorem d_Mo_operation_44 : decode b_Mo_operation 44 = .ok (.iload_n 2, 1) := by decide +kernel
theorem d_Mo_operation_45 : decode b_Mo_operation 45 = .ok (.iconst 5, 1) := by decide +kernel
theorem d_Mo_operation_46 : decode b_Mo_operation 46 = .ok (.if_icmp .ne 13, 3) := by decide +kernel
theorem d_Mo_operation_49 : decode b_Mo_operation 49 = .ok (.iload_n 3, 1) := by decide +kernel
theorem d_Mo_operation_50 : decode b_Mo_operation 50 = .ok (.ifCond .ne 9, 3) := by decide +kernel
theorem d_Mo_operation_53 : decode b_Mo_operation 53 = .ok (.aload_n 0, 1) := by decide +kernel
theorem d_Mo_operation_54 : decode b_Mo_operation 54 = .ok (.iconst 5, 1) := by decide +kernel
theorem d_Mo_operation_55 : decode b_Mo_operation 55 = .ok (.putfield 239, 3) := by decide +kernel
theorem d_Mo_operation_58 : decode b_Mo_operation 58 = .ok (.return_, 1) := by decide +kernel
theorem d_Mo_operation_59 : decode b_Mo_operation 59 = .ok (.iload_n 2, 1) := by decide +kernel
theorem d_Mo_operation_60 : decode b_Mo_operation 60 = .ok (.iconst 1, 1) := by decide +kernel
theorem d_Mo_operation_61 : decode b_Mo_operation 61 = .ok (.if_icmp .ne 17, 3) := by decide +kernel
theorem d_Mo_operation_64 : decode b_Mo_operation 64 = .ok (.aload_n 0, 1) := by decide +kernel
theorem d_Mo_operation_65 : decode b_Mo_operation 65 = .ok (.getfield 66, 3) := by decide +kernel
theorem d_Mo_operation_68 : decode b_Mo_operation 68 = .ok (.aload_n 0, 1) := by decide +kernel
theorem d_Mo_operation_69 : decode b_Mo_operation 69 = .ok (.getfield 63, 3) := by decide +kernel
theorem d_Mo_operation_72 : decode b_Mo_operation 72 = .ok (.iload_n 3, 1) := by decide +kernel
theorem d_Mo_operation_73 : decode b_Mo_operation 73 = .ok (.ineg, 1) := by decide +kernel
theorem d_Mo_operation_74 : decode b_Mo_operation 74 = .ok (.iastore, 1) := by decide +kernel
theorem d_Mo_operation_75 : decode b_Mo_operation 75 = .ok (.goto 150, 3) := by decide +kernel
theorem d_Mo_operation_78 : decode b_Mo_operation 78 = .ok (.iload_n 2, 1) := by decide +kernel
theorem d_Mo_operation_79 : decode b_Mo_operation 79 = .ok (.bipush 10, 2) := by decide +kernel
theorem d_Mo_operation_81 : decode b_Mo_operation 81 = .ok (.if_icmp .ne 21, 3) := by decide +kernel
theorem d_Mo_operation_84 : decode b_Mo_operation 84 = .ok (.aload_n 0, 1) := by decide +kernel
theorem d_Mo_operation_85 : decode b_Mo_operation 85 = .ok (.iload_n 3, 1) := by decide +kernel
theorem d_Mo_operation_86 : decode b_Mo_operation 86 = .ok (.invokevirtual 263, 3) := by decide +kernel
theorem d_Mo_operation_89 : decode b_Mo_operation 89 = .ok (.aload_n 0, 1) := by decide +kernel
theorem d_Mo_operation_90 : decode b_Mo_operation 90 = .ok (.dup, 1) := by decide +kernel
theorem d_Mo_operation_91 : decode b_Mo_operation 91 = .ok (.getfield 63, 3) := by decide +kernel
theorem d_Mo_operation_94 : decode b_Mo_operation 94 = .ok (.iconst 1, 1) := by decide +kernel
theorem d_Mo_operation_95 : decode b_Mo_operation 95 = .ok (.isub, 1) := by decide +kernel
theorem d_Mo_operation_96 : decode b_Mo_operation 96 = .ok (.putfield 63, 3) := by decide +kernel
theorem d_Mo_operation_99 : decode b_Mo_operation 99 = .ok (.goto 126, 3) := by decide +kernel
theorem d_Mo_operation_102 : decode b_Mo_operation 102 = .ok (.aload_n 0, 1) := by decide +kernel
theorem d_Mo_operation_103 : decode b_Mo_operation 103 = .ok (.dup, 1) := by decide +kernel
theorem d_Mo_operation_104 : decode b_Mo_operation 104 = .ok (.getfield 63, 3) := by decide +kernel
theorem d_Mo_operation_107 : decode b_Mo_operation 107 = .ok (.iconst 1, 1) := by decide +kernel
theorem d_Mo_operation_108 : decode b_Mo_operation 108 = .ok (.isub, 1) := by decide +kernel
theorem d_Mo_operation_109 : decode b_Mo_operation 109 = .ok (.putfield 63, 3) := by decide +kernel
theorem d_Mo_operation_112 : decode b_Mo_operation 112 = .ok (.aload_n 0, 1) := by decide +kernel
theorem d_Mo_operation_113 : decode b_Mo_operation 113 = .ok (.getfield 66, 3) := by decide +kernel
theorem d_Mo_operation_116 : decode b_Mo_operation 116 = .ok (.aload_n 0, 1) := by decide +kernel
theorem d_Mo_operation_117 : decode b_Mo_operation 117 = .ok (.getfield 63, 3) := by decide +kernel
theorem d_Mo_operation_120 : decode b_Mo_operation 120 = .ok (.iload_n 2, 1) := by decide +kernel
theorem d_Mo_operation_121 : decode b_Mo_operation 121 = .ok (.iconst 2, 1) := by decide +kernel
theorem d_Mo_operation_122 : decode b_Mo_operation 122 = .ok (.if_icmp .ne 10, 3) := by decide +kernel
theorem d_Mo_operation_125 : decode b_Mo_operation 125 = .ok (.iload 4, 2) := by decide +kernel
theorem d_Mo_operation_127 : decode b_Mo_operation 127 = .ok (.iload_n 3, 1) := by decide +kernel
theorem d_Mo_operation_128 : decode b_Mo_operation 128 = .ok (.iadd, 1) := by decide +kernel
theorem d_Mo_operation_129 : decode b_Mo_operation 129 = .ok (.goto 95, 3) := by decide +kernel
theorem d_Mo_operation_132 : decode b_Mo_operation 132 = .ok (.iload_n 2, 1) := by decide +kernel
theorem d_Mo_operation_133 : decode b_Mo_operation 133 = .ok (.iconst 3, 1) := by decide +kernel
theorem d_Mo_operation_134 : decode b_Mo_operation 134 = .ok (.if_icmp .ne 10, 3) := by decide +kernel
theorem d_Mo_operation_137 : decode b_Mo_operation 137 = .ok (.iload 4, 2) := by decide +kernel
theorem d_Mo_operation_139 : decode b_Mo_operation 139 = .ok (.iload_n 3, 1) := by decide +kernel
theorem d_Mo_operation_140 : decode b_Mo_operation 140 = .ok (.isub, 1) := by decide +kernel
theorem d_Mo_operation_141 : decode b_Mo_operation 141 = .ok (.goto 83, 3) := by decide +kernel
theorem d_Mo_operation_144 : decode b_Mo_operation 144 = .ok (.iload_n 2, 1) := by decide +kernel
theorem d_Mo_operation_145 : decode b_Mo_operation 145 = .ok (.iconst 4, 1) := by decide +kernel
theorem d_Mo_operation_146 : decode b_Mo_operation 146 = .ok (.if_icmp .ne 10, 3) := by decide +kernel
theorem d_Mo_operation_149 : decode b_Mo_operation 149 = .ok (.iload 4, 2) := by decide +kernel
theorem d_Mo_operation_151 : decode b_Mo_operation 151 = .ok (.iload_n 3, 1) := by decide +kernel
theorem d_Mo_operation_152 : decode b_Mo_operation 152 = .ok (.imul, 1) := by decide +kernel
theorem d_Mo_operation_153 : decode b_Mo_operation 153 = .ok (.goto 71, 3) := by decide +kernel
theorem d_Mo_operation_156 : decode b_Mo_operation 156 = .ok (.iload_n 2, 1) := by decide +kernel
theorem d_Mo_operation_157 : decode b_Mo_operation 157 = .ok (.iconst 5, 1) := by decide +kernel
theorem d_Mo_operation_158 : decode b_Mo_operation 158 = .ok (.if_icmp .ne 10, 3) := by decide +kernel
theorem d_Mo_operation_161 : decode b_Mo_operation 161 = .ok (.iload 4, 2) := by decide +kernel
theorem d_Mo_operation_163 : decode b_Mo_operation 163 = .ok (.iload_n 3, 1) := by decide +kernel
theorem d_Mo_operation_164 : decode b_Mo_operation 164 = .ok (.idiv, 1) := by decide +kernel
theorem d_Mo_operation_165 : decode b_Mo_operation 165 = .ok (.goto 59, 3) := by decide +kernel
theorem d_Mo_operation_168 : decode b_Mo_operation 168 = .ok (.iload_n 2, 1) := by decide +kernel
theorem d_Mo_operation_169 : decode b_Mo_operation 169 = .ok (.bipush 6, 2) := by decide +kernel
theorem d_Mo_operation_171 : decode b_Mo_operation 171 = .ok (.if_icmp .ne 12, 3) := by decide +kernel
theorem d_Mo_operation_174 : decode b_Mo_operation 174 = .ok (.iload 4, 2) := by decide +kernel
theorem d_Mo_operation_176 : decode b_Mo_operation 176 = .ok (.iload_n 3, 1) := by decide +kernel
theorem d_Mo_operation_177 : decode b_Mo_operation 177 = .ok (.if_icmp .ne 46, 3) := by decide +kernel
theorem d_Mo_operation_180 : decode b_Mo_operation 180 = .ok (.goto 39, 3) := by decide +kernel
theorem d_Mo_operation_183 : decode b_Mo_operation 183 = .ok (.iload_n 2, 1) := by decide +kernel
theorem d_Mo_operation_184 : decode b_Mo_operation 184 = .ok (.bipush 7, 2) := by decide +kernel
theorem d_Mo_operation_186 : decode b_Mo_operation 186 = .ok (.if_icmp .ne 12, 3) := by decide +kernel
theorem d_Mo_operation_189 : decode b_Mo_operation 189 = .ok (.iload 4, 2) := by decide +kernel
theorem d_Mo_operation_191 : decode b_Mo_operation 191 = .ok (.iload_n 3, 1) := by decide +kernel
theorem d_Mo_operation_192 : decode b_Mo_operation 192 = .ok (.if_icmp .eq 31, 3) := by decide +kernel
theorem d_Mo_operation_195 : decode b_Mo_operation 195 = .ok (.goto 24, 3) := by decide +kernel
theorem d_Mo_operation_198 : decode b_Mo_operation 198 = .ok (.iload_n 2, 1) := by decide +kernel
theorem d_Mo_operation_199 : decode b_Mo_operation 199 = .ok (.bipush 8, 2) := by decide +kernel
theorem d_Mo_operation_201 : decode b_Mo_operation 201 = .ok (.if_icmp .ne 12, 3) := by decide +kernel
theorem d_Mo_operation_204 : decode b_Mo_operation 204 = .ok (.iload 4, 2) := by decide +kernel
theorem d_Mo_operation_206 : decode b_Mo_operation 206 = .ok (.iload_n 3, 1) := by decide +kernel
theorem d_Mo_operation_207 : decode b_Mo_operation 207 = .ok (.if_icmp .ge 16, 3) := by decide +kernel
theorem d_Mo_operation_210 : decode b_Mo_operation 210 = .ok (.goto 9, 3) := by decide +kernel
theorem d_Mo_operation_213 : decode b_Mo_operation 213 = .ok (.iload 4, 2) := by decide +kernel
theorem d_Mo_operation_215 : decode b_Mo_operation 215 = .ok (.iload_n 3, 1) := by decide +kernel
theorem d_Mo_operation_216 : decode b_Mo_operation 216 = .ok (.if_icmp .le 7, 3) := by decide +kernel
theorem d_Mo_operation_219 : decode b_Mo_operation 219 = .ok (.iconst 1, 1) := by decide +kernel
theorem d_Mo_operation_220 : decode b_Mo_operation 220 = .ok (.goto 4, 3) := by decide +kernel
theorem d_Mo_operation_223 : decode b_Mo_operation 223 = .ok (.iconst 0, 1) := by decide +kernel
theorem d_Mo_operation_224 : decode b_Mo_operation 224 = .ok (.iastore, 1) := by decide +kernel
theorem d_Mo_operation_225 : decode b_Mo_operation 225 = .ok (.aload_n 0, 1) := by decide +kernel
theorem d_Mo_operation_226 : decode b_Mo_operation 226 = .ok (.dup, 1) := by decide +kernel
theorem d_Mo_operation_227 : decode b_Mo_operation 227 = .ok (.getfield 242, 3) := by decide +kernel
theorem d_Mo_operation_230 : decode b_Mo_operation 230 = .ok (.iconst 1, 1) := by decide +kernel
theorem d_Mo_operation_231 : decode b_Mo_operation 231 = .ok (.iadd, 1) := by decide +kernel
theorem d_Mo_operation_232 : decode b_Mo_operation 232 = .ok (.putfield 242, 3) := by decide +kernel
theorem d_Mo_operation_235 : decode b_Mo_operation 235 = .ok (.return_, 1) := by decide +kernel

def k_operation_225 (x : nM)  : nM := (nm_f x 35 ((x.1 35) + 1))
def p_operation_225 (x : nM)  : Prop := True
def k_operation_224 (x : nM) (w0 : Int32) (w1 : Int32) : nM := k_operation_225 (nm_a x 40 w1 w0)
def p_operation_224 (x : nM) (w0 : Int32) (w1 : Int32) : Prop := vp_in w1 200 ∧ p_operation_225 (nm_a x 40 w1 w0)
def k_operation_223 (x : nM) (w0 : Int32) : nM := k_operation_224 x 0 w0
def p_operation_223 (x : nM) (w0 : Int32) : Prop := p_operation_224 x 0 w0
def k_operation_219 (x : nM) (w0 : Int32) : nM := k_operation_224 x 1 w0
def p_operation_219 (x : nM) (w0 : Int32) : Prop := p_operation_224 x 1 w0
def k_operation_59 (x : nM) (v2 : Int32) (v3 : Int32) (v4 : Int32) : nM := (if v2 = 1 then k_operation_225 (nm_a x 40 (x.1 37) (-v3)) else (if v2 = 10 then k_operation_225 (nm_f (m_tell x v3) 37 (((m_tell x v3).1 37) - 1)) else (if v2 = 2 then k_operation_224 (nm_f x 37 ((x.1 37) - 1)) (v4 + v3) ((x.1 37) - 1) else (if v2 = 3 then k_operation_224 (nm_f x 37 ((x.1 37) - 1)) (v4 - v3) ((x.1 37) - 1) else (if v2 = 4 then k_operation_224 (nm_f x 37 ((x.1 37) - 1)) (v4 * v3) ((x.1 37) - 1) else (if v2 = 5 then k_operation_224 (nm_f x 37 ((x.1 37) - 1)) (v4 / v3) ((x.1 37) - 1) else (if v2 = 6 then (if v4 = v3 then k_operation_219 (nm_f x 37 ((x.1 37) - 1)) ((x.1 37) - 1) else k_operation_223 (nm_f x 37 ((x.1 37) - 1)) ((x.1 37) - 1)) else (if v2 = 7 then (if v4 = v3 then k_operation_223 (nm_f x 37 ((x.1 37) - 1)) ((x.1 37) - 1) else k_operation_219 (nm_f x 37 ((x.1 37) - 1)) ((x.1 37) - 1)) else (if v2 = 8 then (if v3 ≤ v4 then k_operation_223 (nm_f x 37 ((x.1 37) - 1)) ((x.1 37) - 1) else k_operation_219 (nm_f x 37 ((x.1 37) - 1)) ((x.1 37) - 1)) else (if v4 ≤ v3 then k_operation_223 (nm_f x 37 ((x.1 37) - 1)) ((x.1 37) - 1) else k_operation_219 (nm_f x 37 ((x.1 37) - 1)) ((x.1 37) - 1)))))))))))
def p_operation_59 (x : nM) (v2 : Int32) (v3 : Int32) (v4 : Int32) : Prop := ((v2 = 1 → vp_in (x.1 37) 200 ∧ p_operation_225 (nm_a x 40 (x.1 37) (-v3))) ∧ (¬ (v2 = 1) → ((v2 = 10 → o_tell x v3 ∧ p_operation_225 (nm_f (m_tell x v3) 37 (((m_tell x v3).1 37) - 1))) ∧ (¬ (v2 = 10) → ((v2 = 2 → p_operation_224 (nm_f x 37 ((x.1 37) - 1)) (v4 + v3) ((x.1 37) - 1)) ∧ (¬ (v2 = 2) → ((v2 = 3 → p_operation_224 (nm_f x 37 ((x.1 37) - 1)) (v4 - v3) ((x.1 37) - 1)) ∧ (¬ (v2 = 3) → ((v2 = 4 → p_operation_224 (nm_f x 37 ((x.1 37) - 1)) (v4 * v3) ((x.1 37) - 1)) ∧ (¬ (v2 = 4) → ((v2 = 5 → ¬ v3 = 0 ∧ p_operation_224 (nm_f x 37 ((x.1 37) - 1)) (v4 / v3) ((x.1 37) - 1)) ∧ (¬ (v2 = 5) → ((v2 = 6 → ((v4 = v3 → p_operation_219 (nm_f x 37 ((x.1 37) - 1)) ((x.1 37) - 1)) ∧ (¬ (v4 = v3) → p_operation_223 (nm_f x 37 ((x.1 37) - 1)) ((x.1 37) - 1)))) ∧ (¬ (v2 = 6) → ((v2 = 7 → ((v4 = v3 → p_operation_223 (nm_f x 37 ((x.1 37) - 1)) ((x.1 37) - 1)) ∧ (¬ (v4 = v3) → p_operation_219 (nm_f x 37 ((x.1 37) - 1)) ((x.1 37) - 1)))) ∧ (¬ (v2 = 7) → ((v2 = 8 → ((v3 ≤ v4 → p_operation_223 (nm_f x 37 ((x.1 37) - 1)) ((x.1 37) - 1)) ∧ (¬ (v3 ≤ v4) → p_operation_219 (nm_f x 37 ((x.1 37) - 1)) ((x.1 37) - 1)))) ∧ (¬ (v2 = 8) → ((v4 ≤ v3 → p_operation_223 (nm_f x 37 ((x.1 37) - 1)) ((x.1 37) - 1)) ∧ (¬ (v4 ≤ v3) → p_operation_219 (nm_f x 37 ((x.1 37) - 1)) ((x.1 37) - 1)))))))))))))))))))))
def k_operation_42 (x : nM) (v2 : Int32) (v3 : Int32) (w0 : Int32) : nM := (if v2 = 5 then (if v3 = 0 then (nm_f x 34 5) else k_operation_59 x v2 v3 w0) else k_operation_59 x v2 v3 w0)
def p_operation_42 (x : nM) (v2 : Int32) (v3 : Int32) (w0 : Int32) : Prop := ((v2 = 5 → ((v3 = 0 → True) ∧ (¬ (v3 = 0) → p_operation_59 x v2 v3 w0))) ∧ (¬ (v2 = 5) → p_operation_59 x v2 v3 w0))
def m_operation (x : nM) (a1 : Int32) (a2 : Int32) : nM := (if a2 = 0 then (m_leave x a1) else (if x.1 37 ≤ 0 then k_operation_42 x a2 (nm_g x 40 (x.1 37)) 0 else k_operation_42 x a2 (nm_g x 40 (x.1 37)) (nm_g x 40 ((x.1 37) - 1))))
def o_operation (x : nM) (a1 : Int32) (a2 : Int32) : Prop := ((a2 = 0 → o_leave x a1 ∧ True) ∧ (¬ (a2 = 0) → vp_in (x.1 37) 200 ∧ ((x.1 37 ≤ 0 → p_operation_42 x a2 (nm_g x 40 (x.1 37)) 0) ∧ (¬ (x.1 37 ≤ 0) → vp_in ((x.1 37) - 1) 200 ∧ p_operation_42 x a2 (nm_g x 40 (x.1 37)) (nm_g x 40 ((x.1 37) - 1))))))
set_option maxHeartbeats 4000000 in
set_option maxRecDepth 100000 in
theorem t_operation (l : Launch) (G : nn_G) (sz : Nat) (mo : Nat) (ad : Nat → Nat) (x : nM) (a1 : Int32) (a2 : Int32) (hk : o_operation x a1 a2) : Met l y_Mo_operation w_Mo_operation ({ frames := 1, cells := 0, slots := 0, locals := 22 }) (nn_P G [.ref mo, .int a1, .int a2] (nm_W G mo ad x) sz) (nm_Qv G mo ad (m_operation x a1 a2) (va_A (nm_W G mo ad x) sz)) 0 0 (va_A (nm_W G mo ad x) sz) := by
  refine Met.ofW (cc := b_Mo_operation) (maxL := 5) (ret := none) (by decide) rfl ?_
  intro p e s m args below meth c s₁ B hml hv
  obtain ⟨rfl, hsz, hP, hK, hD0, hN⟩ := hv
  have hx := B.exec
  have hb := B.bytes
  have hr := B.returns
  have hts := atoms_spec (ws := w_Mo_operation) B.pre
  have hg : ∀ w ∈ nn_gw, w.before _ s = true := fun w h => hts w (List.mem_cons_of_mem _ h)
  have hown : s.vm.findClass R_Mo = some m.cls := findClass_of_methodNamed B.named
  subst hsz
  have hD := hD0.self (sz := s.heap.size)
  generalize hAe : va_A (nm_W G mo ad x) s.heap.size = A at hD ⊢
  have hA : ∀ q : Nat, s.heap.size ≤ q → A q := fun q h => by rw [← hAe]; exact Or.inr h
  clear hAe
  have hS : va_S A s.heap s.heap [] := va_S.rf
  have hP : va_P G.1 nn_cls (nm_W G mo ad x) s.heap := hP
  have hl := lv_entry ([.ref mo, .int a1, .int a2]) (n := 5) (Nat.le_of_ble_eq_true rfl)
  rw [lg_entry_eq]
  generalize (lg_sl ([.ref mo, .int a1, .int a2]) ++ List.replicate (5 - (lg_sl ([.ref mo, .int a1, .int a2])).length) Slot.unset).toArray = ls at hl ⊢
  have hl : lv_has ls 5 [(0, .ref mo), (1, .int a1), (2, .int a2)] := hl
  have J225 : ∀ (x : nM)  (ls : Array Slot) (H : Heap) (locs : List Loc), p_operation_225 x → lv_has ls 5 [(0, .ref mo)] → va_P G.1 nn_cls (nm_W G mo ad x) H → va_D A (nm_W G mo ad x) → va_S A s.heap H locs → W p l e (headSpec w_Mo_operation ({ frames := 1, cells := 0, slots := 0, locals := 22 })).room s m [.ref mo, .int a1, .int a2].toArray below meth c H locs 0 0 (MQ below (nm_Qv G mo ad (k_operation_225 x) A) [.ref mo, .int a1, .int a2].toArray s 0 0 A) (F0 m 225 ls []) := by
    intro x  ls H locs hk hl hP hD hS
    unfold p_operation_225 at hk
    refine lv_aload_n hx hb d_Mo_operation_225 rfl (lv_at hl 0 rfl) ?_
    refine lv_dup hx hb d_Mo_operation_226 rfl ?_
    refine nm_get hx hb hg hown hK hP 35 (by decide) (by decide) (hg _ mw_925) d_Mo_operation_227 ?_
    refine lv_iconst (v := 1) hx hb d_Mo_operation_230 (by decide) ?_
    refine lv_iadd hx hb d_Mo_operation_231 ?_
    refine nm_put hx hb hg hown hK hP hD hS 35 (by decide) (by decide) (by decide) (hg _ mw_925) d_Mo_operation_232 (fun H locs hP hD hS => ?_)
    have hR : k_operation_225 x = nm_f x 35 ((x.1 35) + 1) := by rw [k_operation_225]
    refine nm_W1 hR ?_
    exact W.vret hx hb hr (fun t ht hW => ⟨⟨(), rfl, trivial, ⟨by rw [ht]; exact hP, hD⟩⟩, hS.F ht⟩) hS.2.2 d_Mo_operation_235
  have J224 : ∀ (x : nM) (w0 : Int32) (w1 : Int32) (ls : Array Slot) (H : Heap) (locs : List Loc), p_operation_224 x w0 w1 → lv_has ls 5 [(0, .ref mo)] → va_P G.1 nn_cls (nm_W G mo ad x) H → va_D A (nm_W G mo ad x) → va_S A s.heap H locs → W p l e (headSpec w_Mo_operation ({ frames := 1, cells := 0, slots := 0, locals := 22 })).room s m [.ref mo, .int a1, .int a2].toArray below meth c H locs 0 0 (MQ below (nm_Qv G mo ad (k_operation_224 x w0 w1) A) [.ref mo, .int a1, .int a2].toArray s 0 0 A) (F0 m 224 ls [.int w0, .int w1, .ref (ad 40)]) := by
    intro x w0 w1 ls H locs hk hl hP hD hS
    unfold p_operation_224 at hk
    obtain ⟨hi, hk⟩ := hk
    refine nm_st hx hb hK hP hD hS 40 15 rfl (by decide) hi d_Mo_operation_224 (fun H locs hP hD hS => ?_)
    have hl := lv_sub (l' := [(0, .ref mo)]) hl [0] rfl
    have hR : k_operation_224 x w0 w1 = k_operation_225 (nm_a x 40 w1 w0) := by rw [k_operation_224]
    exact nm_W1 hR (J225 (nm_a x 40 w1 w0) ls _ _ hk hl hP hD hS)
  have J223 : ∀ (x : nM) (w0 : Int32) (ls : Array Slot) (H : Heap) (locs : List Loc), p_operation_223 x w0 → lv_has ls 5 [(0, .ref mo)] → va_P G.1 nn_cls (nm_W G mo ad x) H → va_D A (nm_W G mo ad x) → va_S A s.heap H locs → W p l e (headSpec w_Mo_operation ({ frames := 1, cells := 0, slots := 0, locals := 22 })).room s m [.ref mo, .int a1, .int a2].toArray below meth c H locs 0 0 (MQ below (nm_Qv G mo ad (k_operation_223 x w0) A) [.ref mo, .int a1, .int a2].toArray s 0 0 A) (F0 m 223 ls [.int w0, .ref (ad 40)]) := by
    intro x w0 ls H locs hk hl hP hD hS
    unfold p_operation_223 at hk
    refine lv_iconst (v := 0) hx hb d_Mo_operation_223 (by decide) ?_
    have hl := lv_sub (l' := [(0, .ref mo)]) hl [0] rfl
    have hR : k_operation_223 x w0 = k_operation_224 x 0 w0 := by rw [k_operation_223]
    exact nm_W1 hR (J224 x 0 w0 ls _ _ hk hl hP hD hS)
  have J219 : ∀ (x : nM) (w0 : Int32) (ls : Array Slot) (H : Heap) (locs : List Loc), p_operation_219 x w0 → lv_has ls 5 [(0, .ref mo)] → va_P G.1 nn_cls (nm_W G mo ad x) H → va_D A (nm_W G mo ad x) → va_S A s.heap H locs → W p l e (headSpec w_Mo_operation ({ frames := 1, cells := 0, slots := 0, locals := 22 })).room s m [.ref mo, .int a1, .int a2].toArray below meth c H locs 0 0 (MQ below (nm_Qv G mo ad (k_operation_219 x w0) A) [.ref mo, .int a1, .int a2].toArray s 0 0 A) (F0 m 219 ls [.int w0, .ref (ad 40)]) := by
    intro x w0 ls H locs hk hl hP hD hS
    unfold p_operation_219 at hk
    refine lv_iconst (v := 1) hx hb d_Mo_operation_219 (by decide) ?_
    refine lv_goto (tgt := 224) hx hb d_Mo_operation_220 rfl ?_
    have hl := lv_sub (l' := [(0, .ref mo)]) hl [0] rfl
    have hR : k_operation_219 x w0 = k_operation_224 x 1 w0 := by rw [k_operation_219]
    exact nm_W1 hR (J224 x 1 w0 ls _ _ hk hl hP hD hS)
  have J59 : ∀ (x : nM) (v2 : Int32) (v3 : Int32) (v4 : Int32) (ls : Array Slot) (H : Heap) (locs : List Loc), p_operation_59 x v2 v3 v4 → lv_has ls 5 [(0, .ref mo), (2, .int v2), (3, .int v3), (4, .int v4)] → va_P G.1 nn_cls (nm_W G mo ad x) H → va_D A (nm_W G mo ad x) → va_S A s.heap H locs → W p l e (headSpec w_Mo_operation ({ frames := 1, cells := 0, slots := 0, locals := 22 })).room s m [.ref mo, .int a1, .int a2].toArray below meth c H locs 0 0 (MQ below (nm_Qv G mo ad (k_operation_59 x v2 v3 v4) A) [.ref mo, .int a1, .int a2].toArray s 0 0 A) (F0 m 59 ls []) := by
    intro x v2 v3 v4 ls H locs hk hl hP hD hS
    unfold p_operation_59 at hk
    refine lv_iload_n hx hb d_Mo_operation_59 rfl (lv_at hl 1 rfl) ?_
    refine lv_iconst (v := 1) hx hb d_Mo_operation_60 (by decide) ?_
    refine lv_icmp_ne (tgt := 78) hx hb d_Mo_operation_61 rfl (fun hc61 => ?_) (fun hc61 => ?_)
    · skip
      have hk := hk.2 hc61
      refine lv_iload_n hx hb d_Mo_operation_78 rfl (lv_at hl 1 rfl) ?_
      refine lv_bipush (v := 10) hx hb d_Mo_operation_79 (by decide) ?_
      refine lv_icmp_ne (tgt := 102) hx hb d_Mo_operation_81 rfl (fun hc81 => ?_) (fun hc81 => ?_)
      · skip
        have hk := hk.2 hc81
        refine lv_aload_n hx hb d_Mo_operation_102 rfl (lv_at hl 0 rfl) ?_
        refine lv_dup hx hb d_Mo_operation_103 rfl ?_
        refine nm_get hx hb hg hown hK hP 37 (by decide) (by decide) (hg _ mw_927) d_Mo_operation_104 ?_
        refine lv_iconst (v := 1) hx hb d_Mo_operation_107 (by decide) ?_
        refine lv_isub hx hb d_Mo_operation_108 ?_
        refine nm_put hx hb hg hown hK hP hD hS 37 (by decide) (by decide) (by decide) (hg _ mw_927) d_Mo_operation_109 (fun H locs hP hD hS => ?_)
        refine lv_aload_n hx hb d_Mo_operation_112 rfl (lv_at hl 0 rfl) ?_
        refine nm_getA hx hb hg hown hK hP 40 (by decide) (by decide) (hg _ mw_930) d_Mo_operation_113 ?_
        refine lv_aload_n hx hb d_Mo_operation_116 rfl (lv_at hl 0 rfl) ?_
        refine nm_get hx hb hg hown hK hP 37 (by decide) (by decide) (hg _ mw_927) d_Mo_operation_117 ?_
        refine nb_top ((x.1 37) - 1) rfl ?_
        refine lv_iload_n hx hb d_Mo_operation_120 rfl (lv_at hl 1 rfl) ?_
        refine lv_iconst (v := 2) hx hb d_Mo_operation_121 (by decide) ?_
        refine lv_icmp_ne (tgt := 132) hx hb d_Mo_operation_122 rfl (fun hc122 => ?_) (fun hc122 => ?_)
        · skip
          have hk := hk.2 hc122
          refine lv_iload_n hx hb d_Mo_operation_132 rfl (lv_at hl 1 rfl) ?_
          refine lv_iconst (v := 3) hx hb d_Mo_operation_133 (by decide) ?_
          refine lv_icmp_ne (tgt := 144) hx hb d_Mo_operation_134 rfl (fun hc134 => ?_) (fun hc134 => ?_)
          · skip
            have hk := hk.2 hc134
            refine lv_iload_n hx hb d_Mo_operation_144 rfl (lv_at hl 1 rfl) ?_
            refine lv_iconst (v := 4) hx hb d_Mo_operation_145 (by decide) ?_
            refine lv_icmp_ne (tgt := 156) hx hb d_Mo_operation_146 rfl (fun hc146 => ?_) (fun hc146 => ?_)
            · skip
              have hk := hk.2 hc146
              refine lv_iload_n hx hb d_Mo_operation_156 rfl (lv_at hl 1 rfl) ?_
              refine lv_iconst (v := 5) hx hb d_Mo_operation_157 (by decide) ?_
              refine lv_icmp_ne (tgt := 168) hx hb d_Mo_operation_158 rfl (fun hc158 => ?_) (fun hc158 => ?_)
              · skip
                have hk := hk.2 hc158
                refine lv_iload_n hx hb d_Mo_operation_168 rfl (lv_at hl 1 rfl) ?_
                refine lv_bipush (v := 6) hx hb d_Mo_operation_169 (by decide) ?_
                refine lv_icmp_ne (tgt := 183) hx hb d_Mo_operation_171 rfl (fun hc171 => ?_) (fun hc171 => ?_)
                · skip
                  have hk := hk.2 hc171
                  refine lv_iload_n hx hb d_Mo_operation_183 rfl (lv_at hl 1 rfl) ?_
                  refine lv_bipush (v := 7) hx hb d_Mo_operation_184 (by decide) ?_
                  refine lv_icmp_ne (tgt := 198) hx hb d_Mo_operation_186 rfl (fun hc186 => ?_) (fun hc186 => ?_)
                  · skip
                    have hk := hk.2 hc186
                    refine lv_iload_n hx hb d_Mo_operation_198 rfl (lv_at hl 1 rfl) ?_
                    refine lv_bipush (v := 8) hx hb d_Mo_operation_199 (by decide) ?_
                    refine lv_icmp_ne (tgt := 213) hx hb d_Mo_operation_201 rfl (fun hc201 => ?_) (fun hc201 => ?_)
                    · skip
                      have hk := hk.2 hc201
                      refine lv_iload hx hb d_Mo_operation_213 (lv_at hl 3 rfl) ?_
                      refine lv_iload_n hx hb d_Mo_operation_215 rfl (lv_at hl 2 rfl) ?_
                      refine lv_icmp_le (tgt := 223) hx hb d_Mo_operation_216 rfl (fun hc216 => ?_) (fun hc216 => ?_)
                      · skip
                        have hk := hk.1 hc216
                        have hl := lv_sub (l' := [(0, .ref mo)]) hl [0] rfl
                        have hR : k_operation_59 x v2 v3 v4 = k_operation_223 (nm_f x 37 ((x.1 37) - 1)) ((x.1 37) - 1) := by rw [k_operation_59]; rw [if_neg hc61]; rw [if_neg hc81]; rw [if_neg hc122]; rw [if_neg hc134]; rw [if_neg hc146]; rw [if_neg hc158]; rw [if_neg hc171]; rw [if_neg hc186]; rw [if_neg hc201]; rw [if_pos hc216]
                        exact nm_W1 hR (J223 (nm_f x 37 ((x.1 37) - 1)) ((x.1 37) - 1) ls _ _ hk hl hP hD hS)
                      · skip
                        have hk := hk.2 hc216
                        have hl := lv_sub (l' := [(0, .ref mo)]) hl [0] rfl
                        have hR : k_operation_59 x v2 v3 v4 = k_operation_219 (nm_f x 37 ((x.1 37) - 1)) ((x.1 37) - 1) := by rw [k_operation_59]; rw [if_neg hc61]; rw [if_neg hc81]; rw [if_neg hc122]; rw [if_neg hc134]; rw [if_neg hc146]; rw [if_neg hc158]; rw [if_neg hc171]; rw [if_neg hc186]; rw [if_neg hc201]; rw [if_neg hc216]
                        exact nm_W1 hR (J219 (nm_f x 37 ((x.1 37) - 1)) ((x.1 37) - 1) ls _ _ hk hl hP hD hS)
                    · skip
                      have hk := hk.1 hc201
                      refine lv_iload hx hb d_Mo_operation_204 (lv_at hl 3 rfl) ?_
                      refine lv_iload_n hx hb d_Mo_operation_206 rfl (lv_at hl 2 rfl) ?_
                      refine lv_icmp_ge (tgt := 223) hx hb d_Mo_operation_207 rfl (fun hc207 => ?_) (fun hc207 => ?_)
                      · skip
                        have hk := hk.1 hc207
                        have hl := lv_sub (l' := [(0, .ref mo)]) hl [0] rfl
                        have hR : k_operation_59 x v2 v3 v4 = k_operation_223 (nm_f x 37 ((x.1 37) - 1)) ((x.1 37) - 1) := by rw [k_operation_59]; rw [if_neg hc61]; rw [if_neg hc81]; rw [if_neg hc122]; rw [if_neg hc134]; rw [if_neg hc146]; rw [if_neg hc158]; rw [if_neg hc171]; rw [if_neg hc186]; rw [if_pos hc201]; rw [if_pos hc207]
                        exact nm_W1 hR (J223 (nm_f x 37 ((x.1 37) - 1)) ((x.1 37) - 1) ls _ _ hk hl hP hD hS)
                      · skip
                        have hk := hk.2 hc207
                        refine lv_goto (tgt := 219) hx hb d_Mo_operation_210 rfl ?_
                        have hl := lv_sub (l' := [(0, .ref mo)]) hl [0] rfl
                        have hR : k_operation_59 x v2 v3 v4 = k_operation_219 (nm_f x 37 ((x.1 37) - 1)) ((x.1 37) - 1) := by rw [k_operation_59]; rw [if_neg hc61]; rw [if_neg hc81]; rw [if_neg hc122]; rw [if_neg hc134]; rw [if_neg hc146]; rw [if_neg hc158]; rw [if_neg hc171]; rw [if_neg hc186]; rw [if_pos hc201]; rw [if_neg hc207]
                        exact nm_W1 hR (J219 (nm_f x 37 ((x.1 37) - 1)) ((x.1 37) - 1) ls _ _ hk hl hP hD hS)
                  · skip
                    have hk := hk.1 hc186
                    refine lv_iload hx hb d_Mo_operation_189 (lv_at hl 3 rfl) ?_
                    refine lv_iload_n hx hb d_Mo_operation_191 rfl (lv_at hl 2 rfl) ?_
                    refine lv_icmp_eq (tgt := 223) hx hb d_Mo_operation_192 rfl (fun hc192 => ?_) (fun hc192 => ?_)
                    · skip
                      have hk := hk.1 hc192
                      have hl := lv_sub (l' := [(0, .ref mo)]) hl [0] rfl
                      have hR : k_operation_59 x v2 v3 v4 = k_operation_223 (nm_f x 37 ((x.1 37) - 1)) ((x.1 37) - 1) := by rw [k_operation_59]; rw [if_neg hc61]; rw [if_neg hc81]; rw [if_neg hc122]; rw [if_neg hc134]; rw [if_neg hc146]; rw [if_neg hc158]; rw [if_neg hc171]; rw [if_pos hc186]; rw [if_pos hc192]
                      exact nm_W1 hR (J223 (nm_f x 37 ((x.1 37) - 1)) ((x.1 37) - 1) ls _ _ hk hl hP hD hS)
                    · skip
                      have hk := hk.2 hc192
                      refine lv_goto (tgt := 219) hx hb d_Mo_operation_195 rfl ?_
                      have hl := lv_sub (l' := [(0, .ref mo)]) hl [0] rfl
                      have hR : k_operation_59 x v2 v3 v4 = k_operation_219 (nm_f x 37 ((x.1 37) - 1)) ((x.1 37) - 1) := by rw [k_operation_59]; rw [if_neg hc61]; rw [if_neg hc81]; rw [if_neg hc122]; rw [if_neg hc134]; rw [if_neg hc146]; rw [if_neg hc158]; rw [if_neg hc171]; rw [if_pos hc186]; rw [if_neg hc192]
                      exact nm_W1 hR (J219 (nm_f x 37 ((x.1 37) - 1)) ((x.1 37) - 1) ls _ _ hk hl hP hD hS)
                · skip
                  have hk := hk.1 hc171
                  refine lv_iload hx hb d_Mo_operation_174 (lv_at hl 3 rfl) ?_
                  refine lv_iload_n hx hb d_Mo_operation_176 rfl (lv_at hl 2 rfl) ?_
                  refine lv_icmp_ne (tgt := 223) hx hb d_Mo_operation_177 rfl (fun hc177 => ?_) (fun hc177 => ?_)
                  · skip
                    have hk := hk.2 hc177
                    have hl := lv_sub (l' := [(0, .ref mo)]) hl [0] rfl
                    have hR : k_operation_59 x v2 v3 v4 = k_operation_223 (nm_f x 37 ((x.1 37) - 1)) ((x.1 37) - 1) := by rw [k_operation_59]; rw [if_neg hc61]; rw [if_neg hc81]; rw [if_neg hc122]; rw [if_neg hc134]; rw [if_neg hc146]; rw [if_neg hc158]; rw [if_pos hc171]; rw [if_neg hc177]
                    exact nm_W1 hR (J223 (nm_f x 37 ((x.1 37) - 1)) ((x.1 37) - 1) ls _ _ hk hl hP hD hS)
                  · skip
                    have hk := hk.1 hc177
                    refine lv_goto (tgt := 219) hx hb d_Mo_operation_180 rfl ?_
                    have hl := lv_sub (l' := [(0, .ref mo)]) hl [0] rfl
                    have hR : k_operation_59 x v2 v3 v4 = k_operation_219 (nm_f x 37 ((x.1 37) - 1)) ((x.1 37) - 1) := by rw [k_operation_59]; rw [if_neg hc61]; rw [if_neg hc81]; rw [if_neg hc122]; rw [if_neg hc134]; rw [if_neg hc146]; rw [if_neg hc158]; rw [if_pos hc171]; rw [if_pos hc177]
                    exact nm_W1 hR (J219 (nm_f x 37 ((x.1 37) - 1)) ((x.1 37) - 1) ls _ _ hk hl hP hD hS)
              · skip
                have hk := hk.1 hc158
                refine lv_iload hx hb d_Mo_operation_161 (lv_at hl 3 rfl) ?_
                refine lv_iload_n hx hb d_Mo_operation_163 rfl (lv_at hl 2 rfl) ?_
                obtain ⟨hi, hk⟩ := hk
                refine lv_idiv hx hb d_Mo_operation_164 hi ?_
                refine lv_goto (tgt := 224) hx hb d_Mo_operation_165 rfl ?_
                have hl := lv_sub (l' := [(0, .ref mo)]) hl [0] rfl
                have hR : k_operation_59 x v2 v3 v4 = k_operation_224 (nm_f x 37 ((x.1 37) - 1)) (v4 / v3) ((x.1 37) - 1) := by rw [k_operation_59]; rw [if_neg hc61]; rw [if_neg hc81]; rw [if_neg hc122]; rw [if_neg hc134]; rw [if_neg hc146]; rw [if_pos hc158]
                exact nm_W1 hR (J224 (nm_f x 37 ((x.1 37) - 1)) (v4 / v3) ((x.1 37) - 1) ls _ _ hk hl hP hD hS)
            · skip
              have hk := hk.1 hc146
              refine lv_iload hx hb d_Mo_operation_149 (lv_at hl 3 rfl) ?_
              refine lv_iload_n hx hb d_Mo_operation_151 rfl (lv_at hl 2 rfl) ?_
              refine lv_imul hx hb d_Mo_operation_152 ?_
              refine lv_goto (tgt := 224) hx hb d_Mo_operation_153 rfl ?_
              have hl := lv_sub (l' := [(0, .ref mo)]) hl [0] rfl
              have hR : k_operation_59 x v2 v3 v4 = k_operation_224 (nm_f x 37 ((x.1 37) - 1)) (v4 * v3) ((x.1 37) - 1) := by rw [k_operation_59]; rw [if_neg hc61]; rw [if_neg hc81]; rw [if_neg hc122]; rw [if_neg hc134]; rw [if_pos hc146]
              exact nm_W1 hR (J224 (nm_f x 37 ((x.1 37) - 1)) (v4 * v3) ((x.1 37) - 1) ls _ _ hk hl hP hD hS)
          · skip
            have hk := hk.1 hc134
            refine lv_iload hx hb d_Mo_operation_137 (lv_at hl 3 rfl) ?_
            refine lv_iload_n hx hb d_Mo_operation_139 rfl (lv_at hl 2 rfl) ?_
            refine lv_isub hx hb d_Mo_operation_140 ?_
            refine lv_goto (tgt := 224) hx hb d_Mo_operation_141 rfl ?_
            have hl := lv_sub (l' := [(0, .ref mo)]) hl [0] rfl
            have hR : k_operation_59 x v2 v3 v4 = k_operation_224 (nm_f x 37 ((x.1 37) - 1)) (v4 - v3) ((x.1 37) - 1) := by rw [k_operation_59]; rw [if_neg hc61]; rw [if_neg hc81]; rw [if_neg hc122]; rw [if_pos hc134]
            exact nm_W1 hR (J224 (nm_f x 37 ((x.1 37) - 1)) (v4 - v3) ((x.1 37) - 1) ls _ _ hk hl hP hD hS)
        · skip
          have hk := hk.1 hc122
          refine lv_iload hx hb d_Mo_operation_125 (lv_at hl 3 rfl) ?_
          refine lv_iload_n hx hb d_Mo_operation_127 rfl (lv_at hl 2 rfl) ?_
          refine lv_iadd hx hb d_Mo_operation_128 ?_
          refine lv_goto (tgt := 224) hx hb d_Mo_operation_129 rfl ?_
          have hl := lv_sub (l' := [(0, .ref mo)]) hl [0] rfl
          have hR : k_operation_59 x v2 v3 v4 = k_operation_224 (nm_f x 37 ((x.1 37) - 1)) (v4 + v3) ((x.1 37) - 1) := by rw [k_operation_59]; rw [if_neg hc61]; rw [if_neg hc81]; rw [if_pos hc122]
          exact nm_W1 hR (J224 (nm_f x 37 ((x.1 37) - 1)) (v4 + v3) ((x.1 37) - 1) ls _ _ hk hl hP hD hS)
      · skip
        have hk := hk.1 hc81
        refine lv_aload_n hx hb d_Mo_operation_84 rfl (lv_at hl 0 rfl) ?_
        refine lv_iload_n hx hb d_Mo_operation_85 rfl (lv_at hl 2 rfl) ?_
        obtain ⟨hi, hk⟩ := hk
        have hFc := nm_free hD hS hA
        refine va_callv (va_runV (As := [.int v3]) (rest := []) ⟨hx, hb, hml, hown, hts⟩ (t_tell l G _ mo ad x v3 hi) (cwV 1 hts (nn_gV mw_1212 mw_1209 mw_1211 mw_85 mw_94) rfl rfl rfl (by decide +kernel) ⟨Nat.le_of_ble_eq_true rfl, Nat.le_of_ble_eq_true rfl⟩) (nn_preV (va_recv hK hP rfl (q0 := 0) rfl) hP hD hK hN) rfl rfl hl.1 rfl (lv_room (Nat.le_of_ble_eq_true rfl)) d_Mo_operation_86 ⟨Nat.le_of_ble_eq_true rfl, Nat.le_of_ble_eq_true rfl⟩) hS (fun q _ h => hFc q h) hFc (fun u t H locs ht hvm hw hB hz1 hk1 hS => ?_)
        obtain ⟨hP1, hD1⟩ := hB
        rw [ht] at hP1
        have hP := hP1
        have hD := hD1.weaken (fun _ _ _ h => hFc _ h)
        refine lv_aload_n hx hb d_Mo_operation_89 rfl (lv_at hl 0 rfl) ?_
        refine lv_dup hx hb d_Mo_operation_90 rfl ?_
        refine nm_get hx hb hg hown hK hP 37 (by decide) (by decide) (hg _ mw_927) d_Mo_operation_91 ?_
        refine lv_iconst (v := 1) hx hb d_Mo_operation_94 (by decide) ?_
        refine lv_isub hx hb d_Mo_operation_95 ?_
        refine nm_put hx hb hg hown hK hP hD hS 37 (by decide) (by decide) (by decide) (hg _ mw_927) d_Mo_operation_96 (fun H locs hP hD hS => ?_)
        refine lv_goto (tgt := 225) hx hb d_Mo_operation_99 rfl ?_
        have hl := lv_sub (l' := [(0, .ref mo)]) hl [0] rfl
        have hR : k_operation_59 x v2 v3 v4 = k_operation_225 (nm_f (m_tell x v3) 37 (((m_tell x v3).1 37) - 1)) := by rw [k_operation_59]; rw [if_neg hc61]; rw [if_pos hc81]
        exact nm_W1 hR (J225 (nm_f (m_tell x v3) 37 (((m_tell x v3).1 37) - 1)) ls _ _ hk hl hP hD hS)
    · skip
      have hk := hk.1 hc61
      refine lv_aload_n hx hb d_Mo_operation_64 rfl (lv_at hl 0 rfl) ?_
      refine nm_getA hx hb hg hown hK hP 40 (by decide) (by decide) (hg _ mw_930) d_Mo_operation_65 ?_
      refine lv_aload_n hx hb d_Mo_operation_68 rfl (lv_at hl 0 rfl) ?_
      refine nm_get hx hb hg hown hK hP 37 (by decide) (by decide) (hg _ mw_927) d_Mo_operation_69 ?_
      refine lv_iload_n hx hb d_Mo_operation_72 rfl (lv_at hl 2 rfl) ?_
      refine lv_ineg hx hb d_Mo_operation_73 ?_
      obtain ⟨hi, hk⟩ := hk
      refine nm_st hx hb hK hP hD hS 40 15 rfl (by decide) hi d_Mo_operation_74 (fun H locs hP hD hS => ?_)
      refine lv_goto (tgt := 225) hx hb d_Mo_operation_75 rfl ?_
      have hl := lv_sub (l' := [(0, .ref mo)]) hl [0] rfl
      have hR : k_operation_59 x v2 v3 v4 = k_operation_225 (nm_a x 40 (x.1 37) (-v3)) := by rw [k_operation_59]; rw [if_pos hc61]
      exact nm_W1 hR (J225 (nm_a x 40 (x.1 37) (-v3)) ls _ _ hk hl hP hD hS)
  have J42 : ∀ (x : nM) (v2 : Int32) (v3 : Int32) (w0 : Int32) (ls : Array Slot) (H : Heap) (locs : List Loc), p_operation_42 x v2 v3 w0 → lv_has ls 5 [(0, .ref mo), (2, .int v2), (3, .int v3)] → va_P G.1 nn_cls (nm_W G mo ad x) H → va_D A (nm_W G mo ad x) → va_S A s.heap H locs → W p l e (headSpec w_Mo_operation ({ frames := 1, cells := 0, slots := 0, locals := 22 })).room s m [.ref mo, .int a1, .int a2].toArray below meth c H locs 0 0 (MQ below (nm_Qv G mo ad (k_operation_42 x v2 v3 w0) A) [.ref mo, .int a1, .int a2].toArray s 0 0 A) (F0 m 42 ls [.int w0]) := by
    intro x v2 v3 w0 ls H locs hk hl hP hD hS
    unfold p_operation_42 at hk
    refine lv_istore (lv' := [(4, .int w0), (0, .ref mo), (2, .int v2), (3, .int v3)]) hx hb d_Mo_operation_42 hl (by decide) rfl (fun ls hl => ?_)
    refine lv_iload_n hx hb d_Mo_operation_44 rfl (lv_at hl 2 rfl) ?_
    refine lv_iconst (v := 5) hx hb d_Mo_operation_45 (by decide) ?_
    refine lv_icmp_ne (tgt := 59) hx hb d_Mo_operation_46 rfl (fun hc46 => ?_) (fun hc46 => ?_)
    · skip
      have hk := hk.2 hc46
      have hl := lv_sub (l' := [(0, .ref mo), (2, .int v2), (3, .int v3), (4, .int w0)]) hl [1, 2, 3, 0] rfl
      have hR : k_operation_42 x v2 v3 w0 = k_operation_59 x v2 v3 w0 := by rw [k_operation_42]; rw [if_neg hc46]
      exact nm_W1 hR (J59 x v2 v3 w0 ls _ _ hk hl hP hD hS)
    · skip
      have hk := hk.1 hc46
      refine lv_iload_n hx hb d_Mo_operation_49 rfl (lv_at hl 3 rfl) ?_
      refine lv_if_ne (tgt := 59) hx hb d_Mo_operation_50 rfl (fun hc50 => ?_) (fun hc50 => ?_)
      · skip
        have hk := hk.2 hc50
        have hl := lv_sub (l' := [(0, .ref mo), (2, .int v2), (3, .int v3), (4, .int w0)]) hl [1, 2, 3, 0] rfl
        have hR : k_operation_42 x v2 v3 w0 = k_operation_59 x v2 v3 w0 := by rw [k_operation_42]; rw [if_pos hc46]; rw [if_neg hc50]
        exact nm_W1 hR (J59 x v2 v3 w0 ls _ _ hk hl hP hD hS)
      · skip
        have hk := hk.1 hc50
        refine lv_aload_n hx hb d_Mo_operation_53 rfl (lv_at hl 1 rfl) ?_
        refine lv_iconst (v := 5) hx hb d_Mo_operation_54 (by decide) ?_
        refine nm_put hx hb hg hown hK hP hD hS 34 (by decide) (by decide) (by decide) (hg _ mw_924) d_Mo_operation_55 (fun H locs hP hD hS => ?_)
        have hR : k_operation_42 x v2 v3 w0 = nm_f x 34 5 := by rw [k_operation_42]; rw [if_pos hc46]; rw [if_pos hc50]
        refine nm_W1 hR ?_
        exact W.vret hx hb hr (fun t ht hW => ⟨⟨(), rfl, trivial, ⟨by rw [ht]; exact hP, hD⟩⟩, hS.F ht⟩) hS.2.2 d_Mo_operation_58
  unfold o_operation at hk
  refine lv_iload_n hx hb d_Mo_operation_0 rfl (lv_at hl 2 rfl) ?_
  refine lv_if_ne (tgt := 10) hx hb d_Mo_operation_1 rfl (fun hc1 => ?_) (fun hc1 => ?_)
  · skip
    have hk := hk.2 hc1
    refine lv_aload_n hx hb d_Mo_operation_10 rfl (lv_at hl 0 rfl) ?_
    refine nm_getA hx hb hg hown hK hP 40 (by decide) (by decide) (hg _ mw_930) d_Mo_operation_11 ?_
    refine lv_aload_n hx hb d_Mo_operation_14 rfl (lv_at hl 0 rfl) ?_
    refine nm_get hx hb hg hown hK hP 37 (by decide) (by decide) (hg _ mw_927) d_Mo_operation_15 ?_
    obtain ⟨hi, hk⟩ := hk
    refine nm_ld hx hb hK hP 40 15 rfl (by decide) hi d_Mo_operation_18 ?_
    refine lv_istore_n (lv' := [(3, .int (nm_g x 40 (x.1 37))), (0, .ref mo), (1, .int a1), (2, .int a2)]) hx hb d_Mo_operation_19 rfl hl (by decide) rfl (fun ls hl => ?_)
    refine lv_aload_n hx hb d_Mo_operation_20 rfl (lv_at hl 1 rfl) ?_
    refine nm_get hx hb hg hown hK hP 37 (by decide) (by decide) (hg _ mw_927) d_Mo_operation_21 ?_
    refine lv_if_le (tgt := 41) hx hb d_Mo_operation_24 rfl (fun hc24 => ?_) (fun hc24 => ?_)
    · skip
      have hk := hk.1 hc24
      refine lv_iconst (v := 0) hx hb d_Mo_operation_41 (by decide) ?_
      have hl := lv_sub (l' := [(0, .ref mo), (2, .int a2), (3, .int (nm_g x 40 (x.1 37)))]) hl [1, 3, 0] rfl
      have hR : m_operation x a1 a2 = k_operation_42 x a2 (nm_g x 40 (x.1 37)) 0 := by rw [m_operation]; rw [if_neg hc1]; rw [if_pos hc24]
      exact nm_W1 hR (J42 x a2 (nm_g x 40 (x.1 37)) 0 ls _ _ hk hl hP hD hS)
    · skip
      have hk := hk.2 hc24
      refine lv_aload_n hx hb d_Mo_operation_27 rfl (lv_at hl 1 rfl) ?_
      refine nm_getA hx hb hg hown hK hP 40 (by decide) (by decide) (hg _ mw_930) d_Mo_operation_28 ?_
      refine lv_aload_n hx hb d_Mo_operation_31 rfl (lv_at hl 1 rfl) ?_
      refine nm_get hx hb hg hown hK hP 37 (by decide) (by decide) (hg _ mw_927) d_Mo_operation_32 ?_
      refine lv_iconst (v := 1) hx hb d_Mo_operation_35 (by decide) ?_
      refine lv_isub hx hb d_Mo_operation_36 ?_
      obtain ⟨hi, hk⟩ := hk
      refine nm_ld hx hb hK hP 40 15 rfl (by decide) hi d_Mo_operation_37 ?_
      refine lv_goto (tgt := 42) hx hb d_Mo_operation_38 rfl ?_
      have hl := lv_sub (l' := [(0, .ref mo), (2, .int a2), (3, .int (nm_g x 40 (x.1 37)))]) hl [1, 3, 0] rfl
      have hR : m_operation x a1 a2 = k_operation_42 x a2 (nm_g x 40 (x.1 37)) (nm_g x 40 ((x.1 37) - 1)) := by rw [m_operation]; rw [if_neg hc1]; rw [if_neg hc24]
      exact nm_W1 hR (J42 x a2 (nm_g x 40 (x.1 37)) (nm_g x 40 ((x.1 37) - 1)) ls _ _ hk hl hP hD hS)
  · skip
    have hk := hk.1 hc1
    refine lv_aload_n hx hb d_Mo_operation_4 rfl (lv_at hl 0 rfl) ?_
    refine lv_iload_n hx hb d_Mo_operation_5 rfl (lv_at hl 1 rfl) ?_
    obtain ⟨hi, hk⟩ := hk
    have hFc := nm_free hD hS hA
    refine va_callv (va_runV (As := [.int a1]) (rest := []) ⟨hx, hb, hml, hown, hts⟩ (t_leave l G _ mo ad x a1 hi) (cwV 1 hts (nn_gV mw_1208 mw_1205 mw_1207 mw_84 mw_94) rfl rfl rfl (by decide +kernel) ⟨Nat.le_of_ble_eq_true rfl, Nat.le_of_ble_eq_true rfl⟩) (nn_preV (va_recv hK hP rfl (q0 := 0) rfl) hP hD hK hN) rfl rfl hl.1 rfl (lv_room (Nat.le_of_ble_eq_true rfl)) d_Mo_operation_6 ⟨Nat.le_of_ble_eq_true rfl, Nat.le_of_ble_eq_true rfl⟩) hS (fun q _ h => hFc q h) hFc (fun u t H locs ht hvm hw hB hz1 hk1 hS => ?_)
    obtain ⟨hP1, hD1⟩ := hB
    rw [ht] at hP1
    have hP := hP1
    have hD := hD1.weaken (fun _ _ _ h => hFc _ h)
    have hR : m_operation x a1 a2 = m_leave x a1 := by rw [m_operation]; rw [if_pos hc1]
    refine nm_W1 hR ?_
    exact W.vret hx hb hr (fun t ht hW => ⟨⟨(), rfl, trivial, ⟨by rw [ht]; exact hP, hD⟩⟩, hS.F ht⟩) hS.2.2 d_Mo_operation_9

theorem mw_78 : (.selects R_Mo y_Mo_put y_Mo_put : Cond) ∈ nn_gw := nn_at 78 (by decide +kernel) (by decide +kernel)
theorem mw_81 : (.selects R_Mo y_Mo_enter y_Mo_enter : Cond) ∈ nn_gw := nn_at 81 (by decide +kernel) (by decide +kernel)
theorem mw_82 : (.selects R_Mo y_Mo_more y_Mo_more : Cond) ∈ nn_gw := nn_at 82 (by decide +kernel) (by decide +kernel)
theorem mw_83 : (.selects R_Mo y_Mo_operation y_Mo_operation : Cond) ∈ nn_gw := nn_at 83 (by decide +kernel) (by decide +kernel)
theorem mw_1181 : (.methodLink R_Mo 266 y_Mo_put : Cond) ∈ nn_gw := nn_at 1181 (by decide +kernel) (by decide +kernel)
theorem mw_1183 : (.instanceMethod y_Mo_put : Cond) ∈ nn_gw := nn_at 1183 (by decide +kernel) (by decide +kernel)
set_option maxRecDepth 100000 in
theorem mw_1184 : (.code y_Mo_put b_Mo_put 2 none : Cond) ∈ nn_gw := nn_at 1184 (by rfl) (by decide +kernel)
theorem mw_1193 : (.methodLink R_Mo 269 y_Mo_enter : Cond) ∈ nn_gw := nn_at 1193 (by decide +kernel) (by decide +kernel)
theorem mw_1195 : (.instanceMethod y_Mo_enter : Cond) ∈ nn_gw := nn_at 1195 (by decide +kernel) (by decide +kernel)
set_option maxRecDepth 100000 in
theorem mw_1196 : (.code y_Mo_enter b_Mo_enter 4 none : Cond) ∈ nn_gw := nn_at 1196 (by rfl) (by decide +kernel)
theorem mw_1197 : (.methodLink R_Mo 272 y_Mo_more : Cond) ∈ nn_gw := nn_at 1197 (by decide +kernel) (by decide +kernel)
theorem mw_1199 : (.instanceMethod y_Mo_more : Cond) ∈ nn_gw := nn_at 1199 (by decide +kernel) (by decide +kernel)
set_option maxRecDepth 100000 in
theorem mw_1200 : (.code y_Mo_more b_Mo_more 3 none : Cond) ∈ nn_gw := nn_at 1200 (by rfl) (by decide +kernel)
theorem mw_1201 : (.methodLink R_Mo 275 y_Mo_operation : Cond) ∈ nn_gw := nn_at 1201 (by decide +kernel) (by decide +kernel)
theorem mw_1203 : (.instanceMethod y_Mo_operation : Cond) ∈ nn_gw := nn_at 1203 (by decide +kernel) (by decide +kernel)
set_option maxRecDepth 100000 in
theorem mw_1204 : (.code y_Mo_operation b_Mo_operation 5 none : Cond) ∈ nn_gw := nn_at 1204 (by rfl) (by decide +kernel)
theorem d_Mo_step_0 : decode b_Mo_step 0 = .ok (.aload_n 0, 1) := by decide +kernel
theorem d_Mo_step_1 : decode b_Mo_step 1 = .ok (.getfield 54, 3) := by decide +kernel
theorem d_Mo_step_4 : decode b_Mo_step 4 = .ok (.aload_n 0, 1) := by decide +kernel
theorem d_Mo_step_5 : decode b_Mo_step 5 = .ok (.getfield 242, 3) := by decide +kernel
theorem d_Mo_step_8 : decode b_Mo_step 8 = .ok (.iaload, 1) := by decide +kernel
theorem d_Mo_step_9 : decode b_Mo_step 9 = .ok (.istore_n 1, 1) := by decide +kernel
theorem d_Mo_step_10 : decode b_Mo_step 10 = .ok (.aload_n 0, 1) := by decide +kernel
theorem d_Mo_step_11 : decode b_Mo_step 11 = .ok (.getfield 57, 3) := by decide +kernel
theorem d_Mo_step_14 : decode b_Mo_step 14 = .ok (.aload_n 0, 1) := by decide +kernel
theorem d_Mo_step_15 : decode b_Mo_step 15 = .ok (.getfield 242, 3) := by decide +kernel
theorem d_Mo_step_18 : decode b_Mo_step 18 = .ok (.iaload, 1) := by decide +kernel
theorem d_Mo_step_19 : decode b_Mo_step 19 = .ok (.istore_n 2, 1) := by decide +kernel
theorem d_Mo_step_20 : decode b_Mo_step 20 = .ok (.aload_n 0, 1) := by decide +kernel
theorem d_Mo_step_21 : decode b_Mo_step 21 = .ok (.getfield 60, 3) := by decide +kernel
theorem d_Mo_step_24 : decode b_Mo_step 24 = .ok (.aload_n 0, 1) := by decide +kernel
theorem d_Mo_step_25 : decode b_Mo_step 25 = .ok (.getfield 242, 3) := by decide +kernel
theorem d_Mo_step_28 : decode b_Mo_step 28 = .ok (.iaload, 1) := by decide +kernel
theorem d_Mo_step_29 : decode b_Mo_step 29 = .ok (.istore_n 3, 1) := by decide +kernel
theorem d_Mo_step_30 : decode b_Mo_step 30 = .ok (.iload_n 1, 1) := by decide +kernel
theorem d_Mo_step_31 : decode b_Mo_step 31 = .ok (.tableswitch 297 0 9 #[53, 61, 80, 124, 168, 224, 233, 241, 249, 288], 53) := by decide +kernel
theorem d_Mo_step_84 : decode b_Mo_step 84 = .ok (.aload_n 0, 1) := by decide +kernel
theorem d_Mo_step_85 : decode b_Mo_step 85 = .ok (.iload_n 3, 1) := by decide +kernel
theorem d_Mo_step_86 : decode b_Mo_step 86 = .ok (.invokevirtual 266, 3) := by decide +kernel
theorem d_Mo_step_89 : decode b_Mo_step 89 = .ok (.goto 282, 3) := by decide +kernel
theorem d_Mo_step_92 : decode b_Mo_step 92 = .ok (.aload_n 0, 1) := by decide +kernel
theorem d_Mo_step_93 : decode b_Mo_step 93 = .ok (.aload_n 0, 1) := by decide +kernel
theorem d_Mo_step_94 : decode b_Mo_step 94 = .ok (.getfield 66, 3) := by decide +kernel
theorem d_Mo_step_97 : decode b_Mo_step 97 = .ok (.aload_n 0, 1) := by decide +kernel
theorem d_Mo_step_98 : decode b_Mo_step 98 = .ok (.iload_n 2, 1) := by decide +kernel
theorem d_Mo_step_99 : decode b_Mo_step 99 = .ok (.invokevirtual 257, 3) := by decide +kernel
theorem d_Mo_step_102 : decode b_Mo_step 102 = .ok (.iload_n 3, 1) := by decide +kernel
theorem d_Mo_step_103 : decode b_Mo_step 103 = .ok (.iadd, 1) := by decide +kernel
theorem d_Mo_step_104 : decode b_Mo_step 104 = .ok (.iaload, 1) := by decide +kernel
theorem d_Mo_step_105 : decode b_Mo_step 105 = .ok (.invokevirtual 266, 3) := by decide +kernel
theorem d_Mo_step_108 : decode b_Mo_step 108 = .ok (.goto 263, 3) := by decide +kernel
theorem d_Mo_step_111 : decode b_Mo_step 111 = .ok (.aload_n 0, 1) := by decide +kernel
theorem d_Mo_step_112 : decode b_Mo_step 112 = .ok (.getfield 66, 3) := by decide +kernel
theorem d_Mo_step_115 : decode b_Mo_step 115 = .ok (.aload_n 0, 1) := by decide +kernel
theorem d_Mo_step_116 : decode b_Mo_step 116 = .ok (.iload_n 2, 1) := by decide +kernel
theorem d_Mo_step_117 : decode b_Mo_step 117 = .ok (.invokevirtual 257, 3) := by decide +kernel
theorem d_Mo_step_120 : decode b_Mo_step 120 = .ok (.iload_n 3, 1) := by decide +kernel
theorem d_Mo_step_121 : decode b_Mo_step 121 = .ok (.iadd, 1) := by decide +kernel
theorem d_Mo_step_122 : decode b_Mo_step 122 = .ok (.aload_n 0, 1) := by decide +kernel
theorem d_Mo_step_123 : decode b_Mo_step 123 = .ok (.getfield 66, 3) := by decide +kernel
theorem d_Mo_step_126 : decode b_Mo_step 126 = .ok (.aload_n 0, 1) := by decide +kernel
theorem d_Mo_step_127 : decode b_Mo_step 127 = .ok (.getfield 63, 3) := by decide +kernel
theorem d_Mo_step_130 : decode b_Mo_step 130 = .ok (.iaload, 1) := by decide +kernel
theorem d_Mo_step_131 : decode b_Mo_step 131 = .ok (.iastore, 1) := by decide +kernel
theorem d_Mo_step_132 : decode b_Mo_step 132 = .ok (.aload_n 0, 1) := by decide +kernel
theorem d_Mo_step_133 : decode b_Mo_step 133 = .ok (.dup, 1) := by decide +kernel
theorem d_Mo_step_134 : decode b_Mo_step 134 = .ok (.getfield 63, 3) := by decide +kernel
theorem d_Mo_step_137 : decode b_Mo_step 137 = .ok (.iconst 1, 1) := by decide +kernel
theorem d_Mo_step_138 : decode b_Mo_step 138 = .ok (.isub, 1) := by decide +kernel
theorem d_Mo_step_139 : decode b_Mo_step 139 = .ok (.putfield 63, 3) := by decide +kernel
theorem d_Mo_step_142 : decode b_Mo_step 142 = .ok (.aload_n 0, 1) := by decide +kernel
theorem d_Mo_step_143 : decode b_Mo_step 143 = .ok (.dup, 1) := by decide +kernel
theorem d_Mo_step_144 : decode b_Mo_step 144 = .ok (.getfield 242, 3) := by decide +kernel
theorem d_Mo_step_147 : decode b_Mo_step 147 = .ok (.iconst 1, 1) := by decide +kernel
theorem d_Mo_step_148 : decode b_Mo_step 148 = .ok (.iadd, 1) := by decide +kernel
theorem d_Mo_step_149 : decode b_Mo_step 149 = .ok (.putfield 242, 3) := by decide +kernel
theorem d_Mo_step_152 : decode b_Mo_step 152 = .ok (.goto 219, 3) := by decide +kernel
theorem d_Mo_step_155 : decode b_Mo_step 155 = .ok (.aload_n 0, 1) := by decide +kernel
theorem d_Mo_step_156 : decode b_Mo_step 156 = .ok (.getfield 66, 3) := by decide +kernel
theorem d_Mo_step_159 : decode b_Mo_step 159 = .ok (.aload_n 0, 1) := by decide +kernel
theorem d_Mo_step_160 : decode b_Mo_step 160 = .ok (.getfield 63, 3) := by decide +kernel
theorem d_Mo_step_163 : decode b_Mo_step 163 = .ok (.aload_n 0, 1) := by decide +kernel
theorem d_Mo_step_164 : decode b_Mo_step 164 = .ok (.getfield 66, 3) := by decide +kernel
theorem d_Mo_step_167 : decode b_Mo_step 167 = .ok (.aload_n 0, 1) := by decide +kernel
theorem d_Mo_step_168 : decode b_Mo_step 168 = .ok (.iload_n 2, 1) := by decide +kernel
theorem d_Mo_step_169 : decode b_Mo_step 169 = .ok (.invokevirtual 257, 3) := by decide +kernel
theorem d_Mo_step_172 : decode b_Mo_step 172 = .ok (.iload_n 3, 1) := by decide +kernel
theorem d_Mo_step_173 : decode b_Mo_step 173 = .ok (.iadd, 1) := by decide +kernel
theorem d_Mo_step_174 : decode b_Mo_step 174 = .ok (.aload_n 0, 1) := by decide +kernel
theorem d_Mo_step_175 : decode b_Mo_step 175 = .ok (.getfield 66, 3) := by decide +kernel
theorem d_Mo_step_178 : decode b_Mo_step 178 = .ok (.aload_n 0, 1) := by decide +kernel
theorem d_Mo_step_179 : decode b_Mo_step 179 = .ok (.getfield 63, 3) := by decide +kernel
theorem d_Mo_step_182 : decode b_Mo_step 182 = .ok (.iaload, 1) := by decide +kernel
theorem d_Mo_step_183 : decode b_Mo_step 183 = .ok (.iadd, 1) := by decide +kernel
theorem d_Mo_step_184 : decode b_Mo_step 184 = .ok (.iaload, 1) := by decide +kernel
theorem d_Mo_step_185 : decode b_Mo_step 185 = .ok (.iastore, 1) := by decide +kernel
theorem d_Mo_step_186 : decode b_Mo_step 186 = .ok (.aload_n 0, 1) := by decide +kernel
theorem d_Mo_step_187 : decode b_Mo_step 187 = .ok (.dup, 1) := by decide +kernel
theorem d_Mo_step_188 : decode b_Mo_step 188 = .ok (.getfield 242, 3) := by decide +kernel
theorem d_Mo_step_191 : decode b_Mo_step 191 = .ok (.iconst 1, 1) := by decide +kernel
theorem d_Mo_step_192 : decode b_Mo_step 192 = .ok (.iadd, 1) := by decide +kernel
theorem d_Mo_step_193 : decode b_Mo_step 193 = .ok (.putfield 242, 3) := by decide +kernel
theorem d_Mo_step_196 : decode b_Mo_step 196 = .ok (.goto 175, 3) := by decide +kernel
theorem d_Mo_step_199 : decode b_Mo_step 199 = .ok (.aload_n 0, 1) := by decide +kernel
theorem d_Mo_step_200 : decode b_Mo_step 200 = .ok (.getfield 66, 3) := by decide +kernel
theorem d_Mo_step_203 : decode b_Mo_step 203 = .ok (.aload_n 0, 1) := by decide +kernel
theorem d_Mo_step_204 : decode b_Mo_step 204 = .ok (.iload_n 2, 1) := by decide +kernel
theorem d_Mo_step_205 : decode b_Mo_step 205 = .ok (.invokevirtual 257, 3) := by decide +kernel
theorem d_Mo_step_208 : decode b_Mo_step 208 = .ok (.iload_n 3, 1) := by decide +kernel
theorem d_Mo_step_209 : decode b_Mo_step 209 = .ok (.iadd, 1) := by decide +kernel
theorem d_Mo_step_210 : decode b_Mo_step 210 = .ok (.aload_n 0, 1) := by decide +kernel
theorem d_Mo_step_211 : decode b_Mo_step 211 = .ok (.getfield 66, 3) := by decide +kernel
theorem d_Mo_step_214 : decode b_Mo_step 214 = .ok (.aload_n 0, 1) := by decide +kernel
theorem d_Mo_step_215 : decode b_Mo_step 215 = .ok (.getfield 63, 3) := by decide +kernel
theorem d_Mo_step_218 : decode b_Mo_step 218 = .ok (.iconst 1, 1) := by decide +kernel
theorem d_Mo_step_219 : decode b_Mo_step 219 = .ok (.isub, 1) := by decide +kernel
theorem d_Mo_step_220 : decode b_Mo_step 220 = .ok (.iaload, 1) := by decide +kernel
theorem d_Mo_step_221 : decode b_Mo_step 221 = .ok (.iadd, 1) := by decide +kernel
theorem d_Mo_step_222 : decode b_Mo_step 222 = .ok (.aload_n 0, 1) := by decide +kernel
theorem d_Mo_step_223 : decode b_Mo_step 223 = .ok (.getfield 66, 3) := by decide +kernel
theorem d_Mo_step_226 : decode b_Mo_step 226 = .ok (.aload_n 0, 1) := by decide +kernel
theorem d_Mo_step_227 : decode b_Mo_step 227 = .ok (.getfield 63, 3) := by decide +kernel
theorem d_Mo_step_230 : decode b_Mo_step 230 = .ok (.iaload, 1) := by decide +kernel
theorem d_Mo_step_231 : decode b_Mo_step 231 = .ok (.iastore, 1) := by decide +kernel
theorem d_Mo_step_232 : decode b_Mo_step 232 = .ok (.aload_n 0, 1) := by decide +kernel
theorem d_Mo_step_233 : decode b_Mo_step 233 = .ok (.dup, 1) := by decide +kernel
theorem d_Mo_step_234 : decode b_Mo_step 234 = .ok (.getfield 63, 3) := by decide +kernel
theorem d_Mo_step_237 : decode b_Mo_step 237 = .ok (.iconst 2, 1) := by decide +kernel
theorem d_Mo_step_238 : decode b_Mo_step 238 = .ok (.isub, 1) := by decide +kernel
theorem d_Mo_step_239 : decode b_Mo_step 239 = .ok (.putfield 63, 3) := by decide +kernel
theorem d_Mo_step_242 : decode b_Mo_step 242 = .ok (.aload_n 0, 1) := by decide +kernel
theorem d_Mo_step_243 : decode b_Mo_step 243 = .ok (.dup, 1) := by decide +kernel
theorem d_Mo_step_244 : decode b_Mo_step 244 = .ok (.getfield 242, 3) := by decide +kernel
theorem d_Mo_step_247 : decode b_Mo_step 247 = .ok (.iconst 1, 1) := by decide +kernel
theorem d_Mo_step_248 : decode b_Mo_step 248 = .ok (.iadd, 1) := by decide +kernel
theorem d_Mo_step_249 : decode b_Mo_step 249 = .ok (.putfield 242, 3) := by decide +kernel
theorem d_Mo_step_252 : decode b_Mo_step 252 = .ok (.goto 119, 3) := by decide +kernel
theorem d_Mo_step_255 : decode b_Mo_step 255 = .ok (.aload_n 0, 1) := by decide +kernel
theorem d_Mo_step_256 : decode b_Mo_step 256 = .ok (.iload_n 2, 1) := by decide +kernel
theorem d_Mo_step_257 : decode b_Mo_step 257 = .ok (.iload_n 3, 1) := by decide +kernel
theorem d_Mo_step_258 : decode b_Mo_step 258 = .ok (.invokevirtual 269, 3) := by decide +kernel
theorem d_Mo_step_261 : decode b_Mo_step 261 = .ok (.goto 110, 3) := by decide +kernel
theorem d_Mo_step_264 : decode b_Mo_step 264 = .ok (.aload_n 0, 1) := by decide +kernel
theorem d_Mo_step_265 : decode b_Mo_step 265 = .ok (.iload_n 3, 1) := by decide +kernel
theorem d_Mo_step_266 : decode b_Mo_step 266 = .ok (.invokevirtual 272, 3) := by decide +kernel
theorem d_Mo_step_269 : decode b_Mo_step 269 = .ok (.goto 102, 3) := by decide +kernel
theorem d_Mo_step_272 : decode b_Mo_step 272 = .ok (.aload_n 0, 1) := by decide +kernel
theorem d_Mo_step_273 : decode b_Mo_step 273 = .ok (.iload_n 3, 1) := by decide +kernel
theorem d_Mo_step_274 : decode b_Mo_step 274 = .ok (.putfield 242, 3) := by decide +kernel
theorem d_Mo_step_277 : decode b_Mo_step 277 = .ok (.goto 94, 3) := by decide +kernel
theorem d_Mo_step_280 : decode b_Mo_step 280 = .ok (.aload_n 0, 1) := by decide +kernel
theorem d_Mo_step_281 : decode b_Mo_step 281 = .ok (.aload_n 0, 1) := by decide +kernel
theorem d_Mo_step_282 : decode b_Mo_step 282 = .ok (.getfield 66, 3) := by decide +kernel
theorem d_Mo_step_285 : decode b_Mo_step 285 = .ok (.aload_n 0, 1) := by decide +kernel
theorem d_Mo_step_286 : decode b_Mo_step 286 = .ok (.getfield 63, 3) := by decide +kernel
theorem d_Mo_step_289 : decode b_Mo_step 289 = .ok (.iaload, 1) := by decide +kernel
theorem d_Mo_step_290 : decode b_Mo_step 290 = .ok (.ifCond .ne 7, 3) := by decide +kernel
theorem d_Mo_step_293 : decode b_Mo_step 293 = .ok (.iload_n 3, 1) := by decide +kernel
theorem d_Mo_step_294 : decode b_Mo_step 294 = .ok (.goto 9, 3) := by decide +kernel
theorem d_Mo_step_297 : decode b_Mo_step 297 = .ok (.aload_n 0, 1) := by decide +kernel
theorem d_Mo_step_298 : decode b_Mo_step 298 = .ok (.getfield 242, 3) := by decide +kernel
theorem d_Mo_step_301 : decode b_Mo_step 301 = .ok (.iconst 1, 1) := by decide +kernel
theorem d_Mo_step_302 : decode b_Mo_step 302 = .ok (.iadd, 1) := by decide +kernel
theorem d_Mo_step_303 : decode b_Mo_step 303 = .ok (.putfield 242, 3) := by decide +kernel
theorem d_Mo_step_306 : decode b_Mo_step 306 = .ok (.aload_n 0, 1) := by decide +kernel
theorem d_Mo_step_307 : decode b_Mo_step 307 = .ok (.dup, 1) := by decide +kernel
theorem d_Mo_step_308 : decode b_Mo_step 308 = .ok (.getfield 63, 3) := by decide +kernel
theorem d_Mo_step_311 : decode b_Mo_step 311 = .ok (.iconst 1, 1) := by decide +kernel
theorem d_Mo_step_312 : decode b_Mo_step 312 = .ok (.isub, 1) := by decide +kernel
theorem d_Mo_step_313 : decode b_Mo_step 313 = .ok (.putfield 63, 3) := by decide +kernel
theorem d_Mo_step_316 : decode b_Mo_step 316 = .ok (.goto 55, 3) := by decide +kernel
theorem d_Mo_step_319 : decode b_Mo_step 319 = .ok (.aload_n 0, 1) := by decide +kernel
theorem d_Mo_step_320 : decode b_Mo_step 320 = .ok (.iload_n 2, 1) := by decide +kernel
theorem d_Mo_step_321 : decode b_Mo_step 321 = .ok (.iload_n 3, 1) := by decide +kernel
theorem d_Mo_step_322 : decode b_Mo_step 322 = .ok (.invokevirtual 275, 3) := by decide +kernel
theorem d_Mo_step_325 : decode b_Mo_step 325 = .ok (.goto 46, 3) := by decide +kernel
theorem d_Mo_step_328 : decode b_Mo_step 328 = .ok (.aload_n 0, 1) := by decide +kernel
theorem d_Mo_step_329 : decode b_Mo_step 329 = .ok (.getfield 66, 3) := by decide +kernel
theorem d_Mo_step_332 : decode b_Mo_step 332 = .ok (.aload_n 0, 1) := by decide +kernel
theorem d_Mo_step_333 : decode b_Mo_step 333 = .ok (.getfield 63, 3) := by decide +kernel
theorem d_Mo_step_336 : decode b_Mo_step 336 = .ok (.iaload, 1) := by decide +kernel
theorem d_Mo_step_337 : decode b_Mo_step 337 = .ok (.ifCond .lt 16, 3) := by decide +kernel
theorem d_Mo_step_340 : decode b_Mo_step 340 = .ok (.aload_n 0, 1) := by decide +kernel
theorem d_Mo_step_341 : decode b_Mo_step 341 = .ok (.getfield 66, 3) := by decide +kernel
theorem d_Mo_step_344 : decode b_Mo_step 344 = .ok (.aload_n 0, 1) := by decide +kernel
theorem d_Mo_step_345 : decode b_Mo_step 345 = .ok (.getfield 63, 3) := by decide +kernel
theorem d_Mo_step_348 : decode b_Mo_step 348 = .ok (.iaload, 1) := by decide +kernel
theorem d_Mo_step_349 : decode b_Mo_step 349 = .ok (.iload_n 3, 1) := by decide +kernel
theorem d_Mo_step_350 : decode b_Mo_step 350 = .ok (.if_icmp .lt 11, 3) := by decide +kernel
theorem d_Mo_step_353 : decode b_Mo_step 353 = .ok (.aload_n 0, 1) := by decide +kernel
theorem d_Mo_step_354 : decode b_Mo_step 354 = .ok (.iconst 4, 1) := by decide +kernel
theorem d_Mo_step_355 : decode b_Mo_step 355 = .ok (.putfield 239, 3) := by decide +kernel
theorem d_Mo_step_358 : decode b_Mo_step 358 = .ok (.goto 13, 3) := by decide +kernel
theorem d_Mo_step_361 : decode b_Mo_step 361 = .ok (.aload_n 0, 1) := by decide +kernel
theorem d_Mo_step_362 : decode b_Mo_step 362 = .ok (.dup, 1) := by decide +kernel
theorem d_Mo_step_363 : decode b_Mo_step 363 = .ok (.getfield 242, 3) := by decide +kernel
theorem d_Mo_step_366 : decode b_Mo_step 366 = .ok (.iconst 1, 1) := by decide +kernel
theorem d_Mo_step_367 : decode b_Mo_step 367 = .ok (.iadd, 1) := by decide +kernel
theorem d_Mo_step_368 : decode b_Mo_step 368 = .ok (.putfield 242, 3) := by decide +kernel
theorem d_Mo_step_371 : decode b_Mo_step 371 = .ok (.return_, 1) := by decide +kernel

def k_step_353 (x : nM)  : nM := (nm_f x 34 4)
def p_step_353 (x : nM)  : Prop := True
def k_step_303 (x : nM) (w0 : Int32) : nM := (nm_f (nm_f x 35 w0) 37 ((x.1 37) - 1))
def p_step_303 (x : nM) (w0 : Int32) : Prop := True
def m_step (x : nM)  : nM := (if nm_g x 30 (x.1 35) = 0 then (m_put x (nm_g x 32 (x.1 35))) else (if nm_g x 30 (x.1 35) = 1 then (m_put x (nm_g x 40 ((m_linked x (nm_g x 31 (x.1 35))) + (nm_g x 32 (x.1 35))))) else (if nm_g x 30 (x.1 35) = 2 then (nm_f (nm_f (nm_a x 40 ((m_linked x (nm_g x 31 (x.1 35))) + (nm_g x 32 (x.1 35))) (nm_g x 40 (x.1 37))) 37 ((x.1 37) - 1)) 35 ((x.1 35) + 1)) else (if nm_g x 30 (x.1 35) = 3 then (nm_f (nm_a x 40 (x.1 37) (nm_g x 40 (((m_linked x (nm_g x 31 (x.1 35))) + (nm_g x 32 (x.1 35))) + (nm_g x 40 (x.1 37))))) 35 ((x.1 35) + 1)) else (if nm_g x 30 (x.1 35) = 4 then (nm_f (nm_f (nm_a x 40 (((m_linked x (nm_g x 31 (x.1 35))) + (nm_g x 32 (x.1 35))) + (nm_g x 40 ((x.1 37) - 1))) (nm_g x 40 (x.1 37))) 37 ((x.1 37) - 2)) 35 ((x.1 35) + 1)) else (if nm_g x 30 (x.1 35) = 5 then (m_enter x (nm_g x 31 (x.1 35)) (nm_g x 32 (x.1 35))) else (if nm_g x 30 (x.1 35) = 6 then (m_more x (nm_g x 32 (x.1 35))) else (if nm_g x 30 (x.1 35) = 7 then (nm_f x 35 (nm_g x 32 (x.1 35))) else (if nm_g x 30 (x.1 35) = 8 then (if nm_g x 40 (x.1 37) = 0 then k_step_303 x (nm_g x 32 (x.1 35)) else k_step_303 x ((x.1 35) + 1)) else (if nm_g x 30 (x.1 35) = 9 then (m_operation x (nm_g x 31 (x.1 35)) (nm_g x 32 (x.1 35))) else (if nm_g x 40 (x.1 37) < 0 then k_step_353 x else (if nm_g x 40 (x.1 37) < nm_g x 32 (x.1 35) then (nm_f x 35 ((x.1 35) + 1)) else k_step_353 x))))))))))))
def o_step (x : nM)  : Prop := vp_in (x.1 35) 400 ∧ vp_in (x.1 35) 400 ∧ vp_in (x.1 35) 400 ∧ ((nm_g x 30 (x.1 35) = 0 → o_put x (nm_g x 32 (x.1 35)) ∧ True) ∧ (¬ (nm_g x 30 (x.1 35) = 0) → ((nm_g x 30 (x.1 35) = 1 → o_linked x (nm_g x 31 (x.1 35)) ∧ vp_in ((m_linked x (nm_g x 31 (x.1 35))) + (nm_g x 32 (x.1 35))) 200 ∧ o_put x (nm_g x 40 ((m_linked x (nm_g x 31 (x.1 35))) + (nm_g x 32 (x.1 35)))) ∧ True) ∧ (¬ (nm_g x 30 (x.1 35) = 1) → ((nm_g x 30 (x.1 35) = 2 → o_linked x (nm_g x 31 (x.1 35)) ∧ vp_in (x.1 37) 200 ∧ vp_in ((m_linked x (nm_g x 31 (x.1 35))) + (nm_g x 32 (x.1 35))) 200 ∧ True) ∧ (¬ (nm_g x 30 (x.1 35) = 2) → ((nm_g x 30 (x.1 35) = 3 → o_linked x (nm_g x 31 (x.1 35)) ∧ vp_in (x.1 37) 200 ∧ vp_in (((m_linked x (nm_g x 31 (x.1 35))) + (nm_g x 32 (x.1 35))) + (nm_g x 40 (x.1 37))) 200 ∧ vp_in (x.1 37) 200 ∧ True) ∧ (¬ (nm_g x 30 (x.1 35) = 3) → ((nm_g x 30 (x.1 35) = 4 → o_linked x (nm_g x 31 (x.1 35)) ∧ vp_in ((x.1 37) - 1) 200 ∧ vp_in (x.1 37) 200 ∧ vp_in (((m_linked x (nm_g x 31 (x.1 35))) + (nm_g x 32 (x.1 35))) + (nm_g x 40 ((x.1 37) - 1))) 200 ∧ True) ∧ (¬ (nm_g x 30 (x.1 35) = 4) → ((nm_g x 30 (x.1 35) = 5 → o_enter x (nm_g x 31 (x.1 35)) (nm_g x 32 (x.1 35)) ∧ True) ∧ (¬ (nm_g x 30 (x.1 35) = 5) → ((nm_g x 30 (x.1 35) = 6 → o_more x (nm_g x 32 (x.1 35)) ∧ True) ∧ (¬ (nm_g x 30 (x.1 35) = 6) → ((nm_g x 30 (x.1 35) = 7 → True) ∧ (¬ (nm_g x 30 (x.1 35) = 7) → ((nm_g x 30 (x.1 35) = 8 → vp_in (x.1 37) 200 ∧ ((nm_g x 40 (x.1 37) = 0 → p_step_303 x (nm_g x 32 (x.1 35))) ∧ (¬ (nm_g x 40 (x.1 37) = 0) → p_step_303 x ((x.1 35) + 1)))) ∧ (¬ (nm_g x 30 (x.1 35) = 8) → ((nm_g x 30 (x.1 35) = 9 → o_operation x (nm_g x 31 (x.1 35)) (nm_g x 32 (x.1 35)) ∧ True) ∧ (¬ (nm_g x 30 (x.1 35) = 9) → vp_in (x.1 37) 200 ∧ ((nm_g x 40 (x.1 37) < 0 → p_step_353 x) ∧ (¬ (nm_g x 40 (x.1 37) < 0) → vp_in (x.1 37) 200 ∧ ((nm_g x 40 (x.1 37) < nm_g x 32 (x.1 35) → True) ∧ (¬ (nm_g x 40 (x.1 37) < nm_g x 32 (x.1 35)) → p_step_353 x))))))))))))))))))))))))
set_option maxHeartbeats 4000000 in
set_option maxRecDepth 100000 in
theorem t_step (l : Launch) (G : nn_G) (sz : Nat) (mo : Nat) (ad : Nat → Nat) (x : nM)  (hk : o_step x) : Met l y_Mo_step w_Mo_step ({ frames := 2, cells := 0, slots := 0, locals := 46 }) (nn_P G [.ref mo] (nm_W G mo ad x) sz) (nm_Qv G mo ad (m_step x) (va_A (nm_W G mo ad x) sz)) 0 0 (va_A (nm_W G mo ad x) sz) := by
  refine Met.ofW (cc := b_Mo_step) (maxL := 4) (ret := none) (by decide) rfl ?_
  intro p e s m args below meth c s₁ B hml hv
  obtain ⟨rfl, hsz, hP, hK, hD0, hN⟩ := hv
  have hx := B.exec
  have hb := B.bytes
  have hr := B.returns
  have hts := atoms_spec (ws := w_Mo_step) B.pre
  have hg : ∀ w ∈ nn_gw, w.before _ s = true := fun w h => hts w (List.mem_cons_of_mem _ h)
  have hown : s.vm.findClass R_Mo = some m.cls := findClass_of_methodNamed B.named
  subst hsz
  have hD := hD0.self (sz := s.heap.size)
  generalize hAe : va_A (nm_W G mo ad x) s.heap.size = A at hD ⊢
  have hA : ∀ q : Nat, s.heap.size ≤ q → A q := fun q h => by rw [← hAe]; exact Or.inr h
  clear hAe
  have hS : va_S A s.heap s.heap [] := va_S.rf
  have hP : va_P G.1 nn_cls (nm_W G mo ad x) s.heap := hP
  have hl := lv_entry ([.ref mo]) (n := 4) (Nat.le_of_ble_eq_true rfl)
  rw [lg_entry_eq]
  generalize (lg_sl ([.ref mo]) ++ List.replicate (4 - (lg_sl ([.ref mo])).length) Slot.unset).toArray = ls at hl ⊢
  have hl : lv_has ls 4 [(0, .ref mo)] := hl
  have J353 : ∀ (x : nM)  (ls : Array Slot) (H : Heap) (locs : List Loc), p_step_353 x → lv_has ls 4 [(0, .ref mo)] → va_P G.1 nn_cls (nm_W G mo ad x) H → va_D A (nm_W G mo ad x) → va_S A s.heap H locs → W p l e (headSpec w_Mo_step ({ frames := 2, cells := 0, slots := 0, locals := 46 })).room s m [.ref mo].toArray below meth c H locs 0 0 (MQ below (nm_Qv G mo ad (k_step_353 x) A) [.ref mo].toArray s 0 0 A) (F0 m 353 ls []) := by
    intro x  ls H locs hk hl hP hD hS
    unfold p_step_353 at hk
    refine lv_aload_n hx hb d_Mo_step_353 rfl (lv_at hl 0 rfl) ?_
    refine lv_iconst (v := 4) hx hb d_Mo_step_354 (by decide) ?_
    refine nm_put hx hb hg hown hK hP hD hS 34 (by decide) (by decide) (by decide) (hg _ mw_924) d_Mo_step_355 (fun H locs hP hD hS => ?_)
    refine lv_goto (tgt := 371) hx hb d_Mo_step_358 rfl ?_
    have hR : k_step_353 x = nm_f x 34 4 := by rw [k_step_353]
    refine nm_W1 hR ?_
    exact W.vret hx hb hr (fun t ht hW => ⟨⟨(), rfl, trivial, ⟨by rw [ht]; exact hP, hD⟩⟩, hS.F ht⟩) hS.2.2 d_Mo_step_371
  have J303 : ∀ (x : nM) (w0 : Int32) (ls : Array Slot) (H : Heap) (locs : List Loc), p_step_303 x w0 → lv_has ls 4 [(0, .ref mo)] → va_P G.1 nn_cls (nm_W G mo ad x) H → va_D A (nm_W G mo ad x) → va_S A s.heap H locs → W p l e (headSpec w_Mo_step ({ frames := 2, cells := 0, slots := 0, locals := 46 })).room s m [.ref mo].toArray below meth c H locs 0 0 (MQ below (nm_Qv G mo ad (k_step_303 x w0) A) [.ref mo].toArray s 0 0 A) (F0 m 303 ls [.int w0, .ref mo]) := by
    intro x w0 ls H locs hk hl hP hD hS
    unfold p_step_303 at hk
    refine nm_put hx hb hg hown hK hP hD hS 35 (by decide) (by decide) (by decide) (hg _ mw_925) d_Mo_step_303 (fun H locs hP hD hS => ?_)
    refine lv_aload_n hx hb d_Mo_step_306 rfl (lv_at hl 0 rfl) ?_
    refine lv_dup hx hb d_Mo_step_307 rfl ?_
    refine nm_get hx hb hg hown hK hP 37 (by decide) (by decide) (hg _ mw_927) d_Mo_step_308 ?_
    refine nb_top (x.1 37) rfl ?_
    refine lv_iconst (v := 1) hx hb d_Mo_step_311 (by decide) ?_
    refine lv_isub hx hb d_Mo_step_312 ?_
    refine nm_put hx hb hg hown hK hP hD hS 37 (by decide) (by decide) (by decide) (hg _ mw_927) d_Mo_step_313 (fun H locs hP hD hS => ?_)
    refine lv_goto (tgt := 371) hx hb d_Mo_step_316 rfl ?_
    have hR : k_step_303 x w0 = nm_f (nm_f x 35 w0) 37 ((x.1 37) - 1) := by rw [k_step_303]
    refine nm_W1 hR ?_
    exact W.vret hx hb hr (fun t ht hW => ⟨⟨(), rfl, trivial, ⟨by rw [ht]; exact hP, hD⟩⟩, hS.F ht⟩) hS.2.2 d_Mo_step_371
  unfold o_step at hk
  refine lv_aload_n hx hb d_Mo_step_0 rfl (lv_at hl 0 rfl) ?_
  refine nm_getA hx hb hg hown hK hP 30 (by decide) (by decide) (hg _ mw_920) d_Mo_step_1 ?_
  refine lv_aload_n hx hb d_Mo_step_4 rfl (lv_at hl 0 rfl) ?_
  refine nm_get hx hb hg hown hK hP 35 (by decide) (by decide) (hg _ mw_925) d_Mo_step_5 ?_
  obtain ⟨hi, hk⟩ := hk
  refine nm_ld hx hb hK hP 30 12 rfl (by decide) hi d_Mo_step_8 ?_
  refine lv_istore_n (lv' := [(1, .int (nm_g x 30 (x.1 35))), (0, .ref mo)]) hx hb d_Mo_step_9 rfl hl (by decide) rfl (fun ls hl => ?_)
  refine lv_aload_n hx hb d_Mo_step_10 rfl (lv_at hl 1 rfl) ?_
  refine nm_getA hx hb hg hown hK hP 31 (by decide) (by decide) (hg _ mw_921) d_Mo_step_11 ?_
  refine lv_aload_n hx hb d_Mo_step_14 rfl (lv_at hl 1 rfl) ?_
  refine nm_get hx hb hg hown hK hP 35 (by decide) (by decide) (hg _ mw_925) d_Mo_step_15 ?_
  obtain ⟨hi, hk⟩ := hk
  refine nm_ld hx hb hK hP 31 13 rfl (by decide) hi d_Mo_step_18 ?_
  refine lv_istore_n (lv' := [(2, .int (nm_g x 31 (x.1 35))), (1, .int (nm_g x 30 (x.1 35))), (0, .ref mo)]) hx hb d_Mo_step_19 rfl hl (by decide) rfl (fun ls hl => ?_)
  refine lv_aload_n hx hb d_Mo_step_20 rfl (lv_at hl 2 rfl) ?_
  refine nm_getA hx hb hg hown hK hP 32 (by decide) (by decide) (hg _ mw_922) d_Mo_step_21 ?_
  refine lv_aload_n hx hb d_Mo_step_24 rfl (lv_at hl 2 rfl) ?_
  refine nm_get hx hb hg hown hK hP 35 (by decide) (by decide) (hg _ mw_925) d_Mo_step_25 ?_
  obtain ⟨hi, hk⟩ := hk
  refine nm_ld hx hb hK hP 32 14 rfl (by decide) hi d_Mo_step_28 ?_
  refine lv_istore_n (lv' := [(3, .int (nm_g x 32 (x.1 35))), (2, .int (nm_g x 31 (x.1 35))), (1, .int (nm_g x 30 (x.1 35))), (0, .ref mo)]) hx hb d_Mo_step_29 rfl hl (by decide) rfl (fun ls hl => ?_)
  refine lv_iload_n hx hb d_Mo_step_30 rfl (lv_at hl 2 rfl) ?_
  by_cases hk31_0 : nm_g x 30 (x.1 35) = 0
  · skip
    have hk := hk.1 hk31_0
    refine lv_tableIn (off := 53) (tgt := 84) hx hb d_Mo_step_31 (by rw [hk31_0]; decide) (by rw [hk31_0]; decide) (by rw [hk31_0]; decide) rfl ?_
    refine lv_aload_n hx hb d_Mo_step_84 rfl (lv_at hl 3 rfl) ?_
    refine lv_iload_n hx hb d_Mo_step_85 rfl (lv_at hl 0 rfl) ?_
    obtain ⟨hi, hk⟩ := hk
    have hFc := nm_free hD hS hA
    refine va_callv (va_runV (As := [.int (nm_g x 32 (x.1 35))]) (rest := []) ⟨hx, hb, hml, hown, hts⟩ (t_put l G _ mo ad x (nm_g x 32 (x.1 35)) hi) (cwV 1 hts (nn_gV mw_1184 mw_1181 mw_1183 mw_78 mw_94) rfl rfl rfl (by decide +kernel) ⟨Nat.le_of_ble_eq_true rfl, Nat.le_of_ble_eq_true rfl⟩) (nn_preV (va_recv hK hP rfl (q0 := 0) rfl) hP hD hK hN) rfl rfl hl.1 rfl (lv_room (Nat.le_of_ble_eq_true rfl)) d_Mo_step_86 ⟨Nat.le_of_ble_eq_true rfl, Nat.le_of_ble_eq_true rfl⟩) hS (fun q _ h => hFc q h) hFc (fun u t H locs ht hvm hw hB hz1 hk1 hS => ?_)
    obtain ⟨hP1, hD1⟩ := hB
    rw [ht] at hP1
    have hP := hP1
    have hD := hD1.weaken (fun _ _ _ h => hFc _ h)
    refine lv_goto (tgt := 371) hx hb d_Mo_step_89 rfl ?_
    have hR : m_step x = m_put x (nm_g x 32 (x.1 35)) := by rw [m_step]; rw [if_pos hk31_0]
    refine nm_W1 hR ?_
    exact W.vret hx hb hr (fun t ht hW => ⟨⟨(), rfl, trivial, ⟨by rw [ht]; exact hP, hD⟩⟩, hS.F ht⟩) hS.2.2 d_Mo_step_371
  by_cases hk31_1 : nm_g x 30 (x.1 35) = 1
  · skip
    have hk := (hk.2 hk31_0).1 hk31_1
    refine lv_tableIn (off := 61) (tgt := 92) hx hb d_Mo_step_31 (by rw [hk31_1]; decide) (by rw [hk31_1]; decide) (by rw [hk31_1]; decide) rfl ?_
    refine lv_aload_n hx hb d_Mo_step_92 rfl (lv_at hl 3 rfl) ?_
    refine lv_aload_n hx hb d_Mo_step_93 rfl (lv_at hl 3 rfl) ?_
    refine nm_getA hx hb hg hown hK hP 40 (by decide) (by decide) (hg _ mw_930) d_Mo_step_94 ?_
    refine lv_aload_n hx hb d_Mo_step_97 rfl (lv_at hl 3 rfl) ?_
    refine lv_iload_n hx hb d_Mo_step_98 rfl (lv_at hl 1 rfl) ?_
    obtain ⟨hi, hk⟩ := hk
    refine vp_callSi (va_Run.run (va_runV (As := [.int (nm_g x 31 (x.1 35))]) (rest := [.ref (ad 40), .ref mo]) ⟨hx, hb, hml, hown, hts⟩ (t_linked l G _ mo ad x (nm_g x 31 (x.1 35)) hi) (cwV 1 hts (nn_gV mw_1192 mw_1189 mw_1191 mw_80 mw_94) rfl rfl rfl (by decide +kernel) ⟨Nat.le_of_ble_eq_true rfl, Nat.le_of_ble_eq_true rfl⟩) (nn_preV (va_recv hK hP rfl (q0 := 0) rfl) hP hD hK hN) rfl rfl hl.1 rfl (lv_room (Nat.le_of_ble_eq_true rfl)) d_Mo_step_99 ⟨Nat.le_of_ble_eq_true rfl, Nat.le_of_ble_eq_true rfl⟩)) (fun r2 er2 => ?_)
    subst er2
    refine lv_iload_n hx hb d_Mo_step_102 rfl (lv_at hl 0 rfl) ?_
    refine lv_iadd hx hb d_Mo_step_103 ?_
    obtain ⟨hi, hk⟩ := hk
    refine nm_ld hx hb hK hP 40 15 rfl (by decide) hi d_Mo_step_104 ?_
    obtain ⟨hi, hk⟩ := hk
    have hFc := nm_free hD hS hA
    refine va_callv (va_runV (As := [.int (nm_g x 40 ((m_linked x (nm_g x 31 (x.1 35))) + (nm_g x 32 (x.1 35))))]) (rest := []) ⟨hx, hb, hml, hown, hts⟩ (t_put l G _ mo ad x (nm_g x 40 ((m_linked x (nm_g x 31 (x.1 35))) + (nm_g x 32 (x.1 35)))) hi) (cwV 1 hts (nn_gV mw_1184 mw_1181 mw_1183 mw_78 mw_94) rfl rfl rfl (by decide +kernel) ⟨Nat.le_of_ble_eq_true rfl, Nat.le_of_ble_eq_true rfl⟩) (nn_preV (va_recv hK hP rfl (q0 := 0) rfl) hP hD hK hN) rfl rfl hl.1 rfl (lv_room (Nat.le_of_ble_eq_true rfl)) d_Mo_step_105 ⟨Nat.le_of_ble_eq_true rfl, Nat.le_of_ble_eq_true rfl⟩) hS (fun q _ h => hFc q h) hFc (fun u t H locs ht hvm hw hB hz1 hk1 hS => ?_)
    obtain ⟨hP1, hD1⟩ := hB
    rw [ht] at hP1
    have hP := hP1
    have hD := hD1.weaken (fun _ _ _ h => hFc _ h)
    refine lv_goto (tgt := 371) hx hb d_Mo_step_108 rfl ?_
    have hR : m_step x = m_put x (nm_g x 40 ((m_linked x (nm_g x 31 (x.1 35))) + (nm_g x 32 (x.1 35)))) := by rw [m_step]; rw [if_neg hk31_0]; rw [if_pos hk31_1]
    refine nm_W1 hR ?_
    exact W.vret hx hb hr (fun t ht hW => ⟨⟨(), rfl, trivial, ⟨by rw [ht]; exact hP, hD⟩⟩, hS.F ht⟩) hS.2.2 d_Mo_step_371
  by_cases hk31_2 : nm_g x 30 (x.1 35) = 2
  · skip
    have hk := ((hk.2 hk31_0).2 hk31_1).1 hk31_2
    refine lv_tableIn (off := 80) (tgt := 111) hx hb d_Mo_step_31 (by rw [hk31_2]; decide) (by rw [hk31_2]; decide) (by rw [hk31_2]; decide) rfl ?_
    refine lv_aload_n hx hb d_Mo_step_111 rfl (lv_at hl 3 rfl) ?_
    refine nm_getA hx hb hg hown hK hP 40 (by decide) (by decide) (hg _ mw_930) d_Mo_step_112 ?_
    refine lv_aload_n hx hb d_Mo_step_115 rfl (lv_at hl 3 rfl) ?_
    refine lv_iload_n hx hb d_Mo_step_116 rfl (lv_at hl 1 rfl) ?_
    obtain ⟨hi, hk⟩ := hk
    refine vp_callSi (va_Run.run (va_runV (As := [.int (nm_g x 31 (x.1 35))]) (rest := [.ref (ad 40)]) ⟨hx, hb, hml, hown, hts⟩ (t_linked l G _ mo ad x (nm_g x 31 (x.1 35)) hi) (cwV 1 hts (nn_gV mw_1192 mw_1189 mw_1191 mw_80 mw_94) rfl rfl rfl (by decide +kernel) ⟨Nat.le_of_ble_eq_true rfl, Nat.le_of_ble_eq_true rfl⟩) (nn_preV (va_recv hK hP rfl (q0 := 0) rfl) hP hD hK hN) rfl rfl hl.1 rfl (lv_room (Nat.le_of_ble_eq_true rfl)) d_Mo_step_117 ⟨Nat.le_of_ble_eq_true rfl, Nat.le_of_ble_eq_true rfl⟩)) (fun r4 er4 => ?_)
    subst er4
    refine lv_iload_n hx hb d_Mo_step_120 rfl (lv_at hl 0 rfl) ?_
    refine lv_iadd hx hb d_Mo_step_121 ?_
    refine lv_aload_n hx hb d_Mo_step_122 rfl (lv_at hl 3 rfl) ?_
    refine nm_getA hx hb hg hown hK hP 40 (by decide) (by decide) (hg _ mw_930) d_Mo_step_123 ?_
    refine lv_aload_n hx hb d_Mo_step_126 rfl (lv_at hl 3 rfl) ?_
    refine nm_get hx hb hg hown hK hP 37 (by decide) (by decide) (hg _ mw_927) d_Mo_step_127 ?_
    obtain ⟨hi, hk⟩ := hk
    refine nm_ld hx hb hK hP 40 15 rfl (by decide) hi d_Mo_step_130 ?_
    obtain ⟨hi, hk⟩ := hk
    refine nm_st hx hb hK hP hD hS 40 15 rfl (by decide) hi d_Mo_step_131 (fun H locs hP hD hS => ?_)
    refine lv_aload_n hx hb d_Mo_step_132 rfl (lv_at hl 3 rfl) ?_
    refine lv_dup hx hb d_Mo_step_133 rfl ?_
    refine nm_get hx hb hg hown hK hP 37 (by decide) (by decide) (hg _ mw_927) d_Mo_step_134 ?_
    refine nb_top (x.1 37) rfl ?_
    refine lv_iconst (v := 1) hx hb d_Mo_step_137 (by decide) ?_
    refine lv_isub hx hb d_Mo_step_138 ?_
    refine nm_put hx hb hg hown hK hP hD hS 37 (by decide) (by decide) (by decide) (hg _ mw_927) d_Mo_step_139 (fun H locs hP hD hS => ?_)
    refine lv_aload_n hx hb d_Mo_step_142 rfl (lv_at hl 3 rfl) ?_
    refine lv_dup hx hb d_Mo_step_143 rfl ?_
    refine nm_get hx hb hg hown hK hP 35 (by decide) (by decide) (hg _ mw_925) d_Mo_step_144 ?_
    refine nb_top (x.1 35) rfl ?_
    refine lv_iconst (v := 1) hx hb d_Mo_step_147 (by decide) ?_
    refine lv_iadd hx hb d_Mo_step_148 ?_
    refine nm_put hx hb hg hown hK hP hD hS 35 (by decide) (by decide) (by decide) (hg _ mw_925) d_Mo_step_149 (fun H locs hP hD hS => ?_)
    refine lv_goto (tgt := 371) hx hb d_Mo_step_152 rfl ?_
    have hR : m_step x = nm_f (nm_f (nm_a x 40 ((m_linked x (nm_g x 31 (x.1 35))) + (nm_g x 32 (x.1 35))) (nm_g x 40 (x.1 37))) 37 ((x.1 37) - 1)) 35 ((x.1 35) + 1) := by rw [m_step]; rw [if_neg hk31_0]; rw [if_neg hk31_1]; rw [if_pos hk31_2]
    refine nm_W1 hR ?_
    exact W.vret hx hb hr (fun t ht hW => ⟨⟨(), rfl, trivial, ⟨by rw [ht]; exact hP, hD⟩⟩, hS.F ht⟩) hS.2.2 d_Mo_step_371
  by_cases hk31_3 : nm_g x 30 (x.1 35) = 3
  · skip
    have hk := (((hk.2 hk31_0).2 hk31_1).2 hk31_2).1 hk31_3
    refine lv_tableIn (off := 124) (tgt := 155) hx hb d_Mo_step_31 (by rw [hk31_3]; decide) (by rw [hk31_3]; decide) (by rw [hk31_3]; decide) rfl ?_
    refine lv_aload_n hx hb d_Mo_step_155 rfl (lv_at hl 3 rfl) ?_
    refine nm_getA hx hb hg hown hK hP 40 (by decide) (by decide) (hg _ mw_930) d_Mo_step_156 ?_
    refine lv_aload_n hx hb d_Mo_step_159 rfl (lv_at hl 3 rfl) ?_
    refine nm_get hx hb hg hown hK hP 37 (by decide) (by decide) (hg _ mw_927) d_Mo_step_160 ?_
    refine lv_aload_n hx hb d_Mo_step_163 rfl (lv_at hl 3 rfl) ?_
    refine nm_getA hx hb hg hown hK hP 40 (by decide) (by decide) (hg _ mw_930) d_Mo_step_164 ?_
    refine lv_aload_n hx hb d_Mo_step_167 rfl (lv_at hl 3 rfl) ?_
    refine lv_iload_n hx hb d_Mo_step_168 rfl (lv_at hl 1 rfl) ?_
    obtain ⟨hi, hk⟩ := hk
    refine vp_callSi (va_Run.run (va_runV (As := [.int (nm_g x 31 (x.1 35))]) (rest := [.ref (ad 40), .int (x.1 37), .ref (ad 40)]) ⟨hx, hb, hml, hown, hts⟩ (t_linked l G _ mo ad x (nm_g x 31 (x.1 35)) hi) (cwV 1 hts (nn_gV mw_1192 mw_1189 mw_1191 mw_80 mw_94) rfl rfl rfl (by decide +kernel) ⟨Nat.le_of_ble_eq_true rfl, Nat.le_of_ble_eq_true rfl⟩) (nn_preV (va_recv hK hP rfl (q0 := 0) rfl) hP hD hK hN) rfl rfl hl.1 rfl (lv_room (Nat.le_of_ble_eq_true rfl)) d_Mo_step_169 ⟨Nat.le_of_ble_eq_true rfl, Nat.le_of_ble_eq_true rfl⟩)) (fun r5 er5 => ?_)
    subst er5
    refine lv_iload_n hx hb d_Mo_step_172 rfl (lv_at hl 0 rfl) ?_
    refine lv_iadd hx hb d_Mo_step_173 ?_
    refine lv_aload_n hx hb d_Mo_step_174 rfl (lv_at hl 3 rfl) ?_
    refine nm_getA hx hb hg hown hK hP 40 (by decide) (by decide) (hg _ mw_930) d_Mo_step_175 ?_
    refine lv_aload_n hx hb d_Mo_step_178 rfl (lv_at hl 3 rfl) ?_
    refine nm_get hx hb hg hown hK hP 37 (by decide) (by decide) (hg _ mw_927) d_Mo_step_179 ?_
    obtain ⟨hi, hk⟩ := hk
    refine nm_ld hx hb hK hP 40 15 rfl (by decide) hi d_Mo_step_182 ?_
    refine lv_iadd hx hb d_Mo_step_183 ?_
    obtain ⟨hi, hk⟩ := hk
    refine nm_ld hx hb hK hP 40 15 rfl (by decide) hi d_Mo_step_184 ?_
    obtain ⟨hi, hk⟩ := hk
    refine nm_st hx hb hK hP hD hS 40 15 rfl (by decide) hi d_Mo_step_185 (fun H locs hP hD hS => ?_)
    refine lv_aload_n hx hb d_Mo_step_186 rfl (lv_at hl 3 rfl) ?_
    refine lv_dup hx hb d_Mo_step_187 rfl ?_
    refine nm_get hx hb hg hown hK hP 35 (by decide) (by decide) (hg _ mw_925) d_Mo_step_188 ?_
    refine nb_top (x.1 35) rfl ?_
    refine lv_iconst (v := 1) hx hb d_Mo_step_191 (by decide) ?_
    refine lv_iadd hx hb d_Mo_step_192 ?_
    refine nm_put hx hb hg hown hK hP hD hS 35 (by decide) (by decide) (by decide) (hg _ mw_925) d_Mo_step_193 (fun H locs hP hD hS => ?_)
    refine lv_goto (tgt := 371) hx hb d_Mo_step_196 rfl ?_
    have hR : m_step x = nm_f (nm_a x 40 (x.1 37) (nm_g x 40 (((m_linked x (nm_g x 31 (x.1 35))) + (nm_g x 32 (x.1 35))) + (nm_g x 40 (x.1 37))))) 35 ((x.1 35) + 1) := by rw [m_step]; rw [if_neg hk31_0]; rw [if_neg hk31_1]; rw [if_neg hk31_2]; rw [if_pos hk31_3]
    refine nm_W1 hR ?_
    exact W.vret hx hb hr (fun t ht hW => ⟨⟨(), rfl, trivial, ⟨by rw [ht]; exact hP, hD⟩⟩, hS.F ht⟩) hS.2.2 d_Mo_step_371
  by_cases hk31_4 : nm_g x 30 (x.1 35) = 4
  · skip
    have hk := ((((hk.2 hk31_0).2 hk31_1).2 hk31_2).2 hk31_3).1 hk31_4
    refine lv_tableIn (off := 168) (tgt := 199) hx hb d_Mo_step_31 (by rw [hk31_4]; decide) (by rw [hk31_4]; decide) (by rw [hk31_4]; decide) rfl ?_
    refine lv_aload_n hx hb d_Mo_step_199 rfl (lv_at hl 3 rfl) ?_
    refine nm_getA hx hb hg hown hK hP 40 (by decide) (by decide) (hg _ mw_930) d_Mo_step_200 ?_
    refine lv_aload_n hx hb d_Mo_step_203 rfl (lv_at hl 3 rfl) ?_
    refine lv_iload_n hx hb d_Mo_step_204 rfl (lv_at hl 1 rfl) ?_
    obtain ⟨hi, hk⟩ := hk
    refine vp_callSi (va_Run.run (va_runV (As := [.int (nm_g x 31 (x.1 35))]) (rest := [.ref (ad 40)]) ⟨hx, hb, hml, hown, hts⟩ (t_linked l G _ mo ad x (nm_g x 31 (x.1 35)) hi) (cwV 1 hts (nn_gV mw_1192 mw_1189 mw_1191 mw_80 mw_94) rfl rfl rfl (by decide +kernel) ⟨Nat.le_of_ble_eq_true rfl, Nat.le_of_ble_eq_true rfl⟩) (nn_preV (va_recv hK hP rfl (q0 := 0) rfl) hP hD hK hN) rfl rfl hl.1 rfl (lv_room (Nat.le_of_ble_eq_true rfl)) d_Mo_step_205 ⟨Nat.le_of_ble_eq_true rfl, Nat.le_of_ble_eq_true rfl⟩)) (fun r6 er6 => ?_)
    subst er6
    refine lv_iload_n hx hb d_Mo_step_208 rfl (lv_at hl 0 rfl) ?_
    refine lv_iadd hx hb d_Mo_step_209 ?_
    refine lv_aload_n hx hb d_Mo_step_210 rfl (lv_at hl 3 rfl) ?_
    refine nm_getA hx hb hg hown hK hP 40 (by decide) (by decide) (hg _ mw_930) d_Mo_step_211 ?_
    refine lv_aload_n hx hb d_Mo_step_214 rfl (lv_at hl 3 rfl) ?_
    refine nm_get hx hb hg hown hK hP 37 (by decide) (by decide) (hg _ mw_927) d_Mo_step_215 ?_
    refine lv_iconst (v := 1) hx hb d_Mo_step_218 (by decide) ?_
    refine lv_isub hx hb d_Mo_step_219 ?_
    obtain ⟨hi, hk⟩ := hk
    refine nm_ld hx hb hK hP 40 15 rfl (by decide) hi d_Mo_step_220 ?_
    refine lv_iadd hx hb d_Mo_step_221 ?_
    refine lv_aload_n hx hb d_Mo_step_222 rfl (lv_at hl 3 rfl) ?_
    refine nm_getA hx hb hg hown hK hP 40 (by decide) (by decide) (hg _ mw_930) d_Mo_step_223 ?_
    refine lv_aload_n hx hb d_Mo_step_226 rfl (lv_at hl 3 rfl) ?_
    refine nm_get hx hb hg hown hK hP 37 (by decide) (by decide) (hg _ mw_927) d_Mo_step_227 ?_
    obtain ⟨hi, hk⟩ := hk
    refine nm_ld hx hb hK hP 40 15 rfl (by decide) hi d_Mo_step_230 ?_
    obtain ⟨hi, hk⟩ := hk
    refine nm_st hx hb hK hP hD hS 40 15 rfl (by decide) hi d_Mo_step_231 (fun H locs hP hD hS => ?_)
    refine lv_aload_n hx hb d_Mo_step_232 rfl (lv_at hl 3 rfl) ?_
    refine lv_dup hx hb d_Mo_step_233 rfl ?_
    refine nm_get hx hb hg hown hK hP 37 (by decide) (by decide) (hg _ mw_927) d_Mo_step_234 ?_
    refine nb_top (x.1 37) rfl ?_
    refine lv_iconst (v := 2) hx hb d_Mo_step_237 (by decide) ?_
    refine lv_isub hx hb d_Mo_step_238 ?_
    refine nm_put hx hb hg hown hK hP hD hS 37 (by decide) (by decide) (by decide) (hg _ mw_927) d_Mo_step_239 (fun H locs hP hD hS => ?_)
    refine lv_aload_n hx hb d_Mo_step_242 rfl (lv_at hl 3 rfl) ?_
    refine lv_dup hx hb d_Mo_step_243 rfl ?_
    refine nm_get hx hb hg hown hK hP 35 (by decide) (by decide) (hg _ mw_925) d_Mo_step_244 ?_
    refine nb_top (x.1 35) rfl ?_
    refine lv_iconst (v := 1) hx hb d_Mo_step_247 (by decide) ?_
    refine lv_iadd hx hb d_Mo_step_248 ?_
    refine nm_put hx hb hg hown hK hP hD hS 35 (by decide) (by decide) (by decide) (hg _ mw_925) d_Mo_step_249 (fun H locs hP hD hS => ?_)
    refine lv_goto (tgt := 371) hx hb d_Mo_step_252 rfl ?_
    have hR : m_step x = nm_f (nm_f (nm_a x 40 (((m_linked x (nm_g x 31 (x.1 35))) + (nm_g x 32 (x.1 35))) + (nm_g x 40 ((x.1 37) - 1))) (nm_g x 40 (x.1 37))) 37 ((x.1 37) - 2)) 35 ((x.1 35) + 1) := by rw [m_step]; rw [if_neg hk31_0]; rw [if_neg hk31_1]; rw [if_neg hk31_2]; rw [if_neg hk31_3]; rw [if_pos hk31_4]
    refine nm_W1 hR ?_
    exact W.vret hx hb hr (fun t ht hW => ⟨⟨(), rfl, trivial, ⟨by rw [ht]; exact hP, hD⟩⟩, hS.F ht⟩) hS.2.2 d_Mo_step_371
  by_cases hk31_5 : nm_g x 30 (x.1 35) = 5
  · skip
    have hk := (((((hk.2 hk31_0).2 hk31_1).2 hk31_2).2 hk31_3).2 hk31_4).1 hk31_5
    refine lv_tableIn (off := 224) (tgt := 255) hx hb d_Mo_step_31 (by rw [hk31_5]; decide) (by rw [hk31_5]; decide) (by rw [hk31_5]; decide) rfl ?_
    refine lv_aload_n hx hb d_Mo_step_255 rfl (lv_at hl 3 rfl) ?_
    refine lv_iload_n hx hb d_Mo_step_256 rfl (lv_at hl 1 rfl) ?_
    refine lv_iload_n hx hb d_Mo_step_257 rfl (lv_at hl 0 rfl) ?_
    obtain ⟨hi, hk⟩ := hk
    have hFc := nm_free hD hS hA
    refine va_callv (va_runV (As := [.int (nm_g x 31 (x.1 35)), .int (nm_g x 32 (x.1 35))]) (rest := []) ⟨hx, hb, hml, hown, hts⟩ (t_enter l G _ mo ad x (nm_g x 31 (x.1 35)) (nm_g x 32 (x.1 35)) hi) (cwV 2 hts (nn_gV mw_1196 mw_1193 mw_1195 mw_81 mw_94) rfl rfl rfl (by decide +kernel) ⟨Nat.le_of_ble_eq_true rfl, Nat.le_of_ble_eq_true rfl⟩) (nn_preV (va_recv hK hP rfl (q0 := 0) rfl) hP hD hK hN) rfl rfl hl.1 rfl (lv_room (Nat.le_of_ble_eq_true rfl)) d_Mo_step_258 ⟨Nat.le_of_ble_eq_true rfl, Nat.le_of_ble_eq_true rfl⟩) hS (fun q _ h => hFc q h) hFc (fun u t H locs ht hvm hw hB hz1 hk1 hS => ?_)
    obtain ⟨hP1, hD1⟩ := hB
    rw [ht] at hP1
    have hP := hP1
    have hD := hD1.weaken (fun _ _ _ h => hFc _ h)
    refine lv_goto (tgt := 371) hx hb d_Mo_step_261 rfl ?_
    have hR : m_step x = m_enter x (nm_g x 31 (x.1 35)) (nm_g x 32 (x.1 35)) := by rw [m_step]; rw [if_neg hk31_0]; rw [if_neg hk31_1]; rw [if_neg hk31_2]; rw [if_neg hk31_3]; rw [if_neg hk31_4]; rw [if_pos hk31_5]
    refine nm_W1 hR ?_
    exact W.vret hx hb hr (fun t ht hW => ⟨⟨(), rfl, trivial, ⟨by rw [ht]; exact hP, hD⟩⟩, hS.F ht⟩) hS.2.2 d_Mo_step_371
  by_cases hk31_6 : nm_g x 30 (x.1 35) = 6
  · skip
    have hk := ((((((hk.2 hk31_0).2 hk31_1).2 hk31_2).2 hk31_3).2 hk31_4).2 hk31_5).1 hk31_6
    refine lv_tableIn (off := 233) (tgt := 264) hx hb d_Mo_step_31 (by rw [hk31_6]; decide) (by rw [hk31_6]; decide) (by rw [hk31_6]; decide) rfl ?_
    refine lv_aload_n hx hb d_Mo_step_264 rfl (lv_at hl 3 rfl) ?_
    refine lv_iload_n hx hb d_Mo_step_265 rfl (lv_at hl 0 rfl) ?_
    obtain ⟨hi, hk⟩ := hk
    have hFc := nm_free hD hS hA
    refine va_callv (va_runV (As := [.int (nm_g x 32 (x.1 35))]) (rest := []) ⟨hx, hb, hml, hown, hts⟩ (t_more l G _ mo ad x (nm_g x 32 (x.1 35)) hi) (cwV 1 hts (nn_gV mw_1200 mw_1197 mw_1199 mw_82 mw_94) rfl rfl rfl (by decide +kernel) ⟨Nat.le_of_ble_eq_true rfl, Nat.le_of_ble_eq_true rfl⟩) (nn_preV (va_recv hK hP rfl (q0 := 0) rfl) hP hD hK hN) rfl rfl hl.1 rfl (lv_room (Nat.le_of_ble_eq_true rfl)) d_Mo_step_266 ⟨Nat.le_of_ble_eq_true rfl, Nat.le_of_ble_eq_true rfl⟩) hS (fun q _ h => hFc q h) hFc (fun u t H locs ht hvm hw hB hz1 hk1 hS => ?_)
    obtain ⟨hP1, hD1⟩ := hB
    rw [ht] at hP1
    have hP := hP1
    have hD := hD1.weaken (fun _ _ _ h => hFc _ h)
    refine lv_goto (tgt := 371) hx hb d_Mo_step_269 rfl ?_
    have hR : m_step x = m_more x (nm_g x 32 (x.1 35)) := by rw [m_step]; rw [if_neg hk31_0]; rw [if_neg hk31_1]; rw [if_neg hk31_2]; rw [if_neg hk31_3]; rw [if_neg hk31_4]; rw [if_neg hk31_5]; rw [if_pos hk31_6]
    refine nm_W1 hR ?_
    exact W.vret hx hb hr (fun t ht hW => ⟨⟨(), rfl, trivial, ⟨by rw [ht]; exact hP, hD⟩⟩, hS.F ht⟩) hS.2.2 d_Mo_step_371
  by_cases hk31_7 : nm_g x 30 (x.1 35) = 7
  · skip
    have hk := (((((((hk.2 hk31_0).2 hk31_1).2 hk31_2).2 hk31_3).2 hk31_4).2 hk31_5).2 hk31_6).1 hk31_7
    refine lv_tableIn (off := 241) (tgt := 272) hx hb d_Mo_step_31 (by rw [hk31_7]; decide) (by rw [hk31_7]; decide) (by rw [hk31_7]; decide) rfl ?_
    refine lv_aload_n hx hb d_Mo_step_272 rfl (lv_at hl 3 rfl) ?_
    refine lv_iload_n hx hb d_Mo_step_273 rfl (lv_at hl 0 rfl) ?_
    refine nm_put hx hb hg hown hK hP hD hS 35 (by decide) (by decide) (by decide) (hg _ mw_925) d_Mo_step_274 (fun H locs hP hD hS => ?_)
    refine lv_goto (tgt := 371) hx hb d_Mo_step_277 rfl ?_
    have hR : m_step x = nm_f x 35 (nm_g x 32 (x.1 35)) := by rw [m_step]; rw [if_neg hk31_0]; rw [if_neg hk31_1]; rw [if_neg hk31_2]; rw [if_neg hk31_3]; rw [if_neg hk31_4]; rw [if_neg hk31_5]; rw [if_neg hk31_6]; rw [if_pos hk31_7]
    refine nm_W1 hR ?_
    exact W.vret hx hb hr (fun t ht hW => ⟨⟨(), rfl, trivial, ⟨by rw [ht]; exact hP, hD⟩⟩, hS.F ht⟩) hS.2.2 d_Mo_step_371
  by_cases hk31_8 : nm_g x 30 (x.1 35) = 8
  · skip
    have hk := ((((((((hk.2 hk31_0).2 hk31_1).2 hk31_2).2 hk31_3).2 hk31_4).2 hk31_5).2 hk31_6).2 hk31_7).1 hk31_8
    refine lv_tableIn (off := 249) (tgt := 280) hx hb d_Mo_step_31 (by rw [hk31_8]; decide) (by rw [hk31_8]; decide) (by rw [hk31_8]; decide) rfl ?_
    refine lv_aload_n hx hb d_Mo_step_280 rfl (lv_at hl 3 rfl) ?_
    refine lv_aload_n hx hb d_Mo_step_281 rfl (lv_at hl 3 rfl) ?_
    refine nm_getA hx hb hg hown hK hP 40 (by decide) (by decide) (hg _ mw_930) d_Mo_step_282 ?_
    refine lv_aload_n hx hb d_Mo_step_285 rfl (lv_at hl 3 rfl) ?_
    refine nm_get hx hb hg hown hK hP 37 (by decide) (by decide) (hg _ mw_927) d_Mo_step_286 ?_
    obtain ⟨hi, hk⟩ := hk
    refine nm_ld hx hb hK hP 40 15 rfl (by decide) hi d_Mo_step_289 ?_
    refine lv_if_ne (tgt := 297) hx hb d_Mo_step_290 rfl (fun hc290 => ?_) (fun hc290 => ?_)
    · skip
      have hk := hk.2 hc290
      refine lv_aload_n hx hb d_Mo_step_297 rfl (lv_at hl 3 rfl) ?_
      refine nm_get hx hb hg hown hK hP 35 (by decide) (by decide) (hg _ mw_925) d_Mo_step_298 ?_
      refine lv_iconst (v := 1) hx hb d_Mo_step_301 (by decide) ?_
      refine lv_iadd hx hb d_Mo_step_302 ?_
      have hl := lv_sub (l' := [(0, .ref mo)]) hl [3] rfl
      have hR : m_step x = k_step_303 x ((x.1 35) + 1) := by rw [m_step]; rw [if_neg hk31_0]; rw [if_neg hk31_1]; rw [if_neg hk31_2]; rw [if_neg hk31_3]; rw [if_neg hk31_4]; rw [if_neg hk31_5]; rw [if_neg hk31_6]; rw [if_neg hk31_7]; rw [if_pos hk31_8]; rw [if_neg hc290]
      exact nm_W1 hR (J303 x ((x.1 35) + 1) ls _ _ hk hl hP hD hS)
    · skip
      have hk := hk.1 hc290
      refine lv_iload_n hx hb d_Mo_step_293 rfl (lv_at hl 0 rfl) ?_
      refine lv_goto (tgt := 303) hx hb d_Mo_step_294 rfl ?_
      have hl := lv_sub (l' := [(0, .ref mo)]) hl [3] rfl
      have hR : m_step x = k_step_303 x (nm_g x 32 (x.1 35)) := by rw [m_step]; rw [if_neg hk31_0]; rw [if_neg hk31_1]; rw [if_neg hk31_2]; rw [if_neg hk31_3]; rw [if_neg hk31_4]; rw [if_neg hk31_5]; rw [if_neg hk31_6]; rw [if_neg hk31_7]; rw [if_pos hk31_8]; rw [if_pos hc290]
      exact nm_W1 hR (J303 x (nm_g x 32 (x.1 35)) ls _ _ hk hl hP hD hS)
  by_cases hk31_9 : nm_g x 30 (x.1 35) = 9
  · skip
    have hk := (((((((((hk.2 hk31_0).2 hk31_1).2 hk31_2).2 hk31_3).2 hk31_4).2 hk31_5).2 hk31_6).2 hk31_7).2 hk31_8).1 hk31_9
    refine lv_tableIn (off := 288) (tgt := 319) hx hb d_Mo_step_31 (by rw [hk31_9]; decide) (by rw [hk31_9]; decide) (by rw [hk31_9]; decide) rfl ?_
    refine lv_aload_n hx hb d_Mo_step_319 rfl (lv_at hl 3 rfl) ?_
    refine lv_iload_n hx hb d_Mo_step_320 rfl (lv_at hl 1 rfl) ?_
    refine lv_iload_n hx hb d_Mo_step_321 rfl (lv_at hl 0 rfl) ?_
    obtain ⟨hi, hk⟩ := hk
    have hFc := nm_free hD hS hA
    refine va_callv (va_runV (As := [.int (nm_g x 31 (x.1 35)), .int (nm_g x 32 (x.1 35))]) (rest := []) ⟨hx, hb, hml, hown, hts⟩ (t_operation l G _ mo ad x (nm_g x 31 (x.1 35)) (nm_g x 32 (x.1 35)) hi) (cwV 2 hts (nn_gV mw_1204 mw_1201 mw_1203 mw_83 mw_94) rfl rfl rfl (by decide +kernel) ⟨Nat.le_of_ble_eq_true rfl, Nat.le_of_ble_eq_true rfl⟩) (nn_preV (va_recv hK hP rfl (q0 := 0) rfl) hP hD hK hN) rfl rfl hl.1 rfl (lv_room (Nat.le_of_ble_eq_true rfl)) d_Mo_step_322 ⟨Nat.le_of_ble_eq_true rfl, Nat.le_of_ble_eq_true rfl⟩) hS (fun q _ h => hFc q h) hFc (fun u t H locs ht hvm hw hB hz1 hk1 hS => ?_)
    obtain ⟨hP1, hD1⟩ := hB
    rw [ht] at hP1
    have hP := hP1
    have hD := hD1.weaken (fun _ _ _ h => hFc _ h)
    refine lv_goto (tgt := 371) hx hb d_Mo_step_325 rfl ?_
    have hR : m_step x = m_operation x (nm_g x 31 (x.1 35)) (nm_g x 32 (x.1 35)) := by rw [m_step]; rw [if_neg hk31_0]; rw [if_neg hk31_1]; rw [if_neg hk31_2]; rw [if_neg hk31_3]; rw [if_neg hk31_4]; rw [if_neg hk31_5]; rw [if_neg hk31_6]; rw [if_neg hk31_7]; rw [if_neg hk31_8]; rw [if_pos hk31_9]
    refine nm_W1 hR ?_
    exact W.vret hx hb hr (fun t ht hW => ⟨⟨(), rfl, trivial, ⟨by rw [ht]; exact hP, hD⟩⟩, hS.F ht⟩) hS.2.2 d_Mo_step_371
  have hk := ((((((((((hk.2 hk31_0).2 hk31_1).2 hk31_2).2 hk31_3).2 hk31_4).2 hk31_5).2 hk31_6).2 hk31_7).2 hk31_8).2 hk31_9)
  refine lv_tableOut (tgt := 328) hx hb d_Mo_step_31 (by have q0 := lv_neT hk31_0 (show (0 : Int32).toInt = 0 by decide); have q1 := lv_neT hk31_1 (show (1 : Int32).toInt = 1 by decide); have q2 := lv_neT hk31_2 (show (2 : Int32).toInt = 2 by decide); have q3 := lv_neT hk31_3 (show (3 : Int32).toInt = 3 by decide); have q4 := lv_neT hk31_4 (show (4 : Int32).toInt = 4 by decide); have q5 := lv_neT hk31_5 (show (5 : Int32).toInt = 5 by decide); have q6 := lv_neT hk31_6 (show (6 : Int32).toInt = 6 by decide); have q7 := lv_neT hk31_7 (show (7 : Int32).toInt = 7 by decide); have q8 := lv_neT hk31_8 (show (8 : Int32).toInt = 8 by decide); have q9 := lv_neT hk31_9 (show (9 : Int32).toInt = 9 by decide); omega) rfl ?_
  refine lv_aload_n hx hb d_Mo_step_328 rfl (lv_at hl 3 rfl) ?_
  refine nm_getA hx hb hg hown hK hP 40 (by decide) (by decide) (hg _ mw_930) d_Mo_step_329 ?_
  refine lv_aload_n hx hb d_Mo_step_332 rfl (lv_at hl 3 rfl) ?_
  refine nm_get hx hb hg hown hK hP 37 (by decide) (by decide) (hg _ mw_927) d_Mo_step_333 ?_
  obtain ⟨hi, hk⟩ := hk
  refine nm_ld hx hb hK hP 40 15 rfl (by decide) hi d_Mo_step_336 ?_
  refine lv_if_lt (tgt := 353) hx hb d_Mo_step_337 rfl (fun hc337 => ?_) (fun hc337 => ?_)
  · skip
    have hk := hk.1 hc337
    have hl := lv_sub (l' := [(0, .ref mo)]) hl [3] rfl
    have hR : m_step x = k_step_353 x := by rw [m_step]; rw [if_neg hk31_0]; rw [if_neg hk31_1]; rw [if_neg hk31_2]; rw [if_neg hk31_3]; rw [if_neg hk31_4]; rw [if_neg hk31_5]; rw [if_neg hk31_6]; rw [if_neg hk31_7]; rw [if_neg hk31_8]; rw [if_neg hk31_9]; rw [if_pos hc337]
    exact nm_W1 hR (J353 x ls _ _ hk hl hP hD hS)
  · skip
    have hk := hk.2 hc337
    refine lv_aload_n hx hb d_Mo_step_340 rfl (lv_at hl 3 rfl) ?_
    refine nm_getA hx hb hg hown hK hP 40 (by decide) (by decide) (hg _ mw_930) d_Mo_step_341 ?_
    refine lv_aload_n hx hb d_Mo_step_344 rfl (lv_at hl 3 rfl) ?_
    refine nm_get hx hb hg hown hK hP 37 (by decide) (by decide) (hg _ mw_927) d_Mo_step_345 ?_
    obtain ⟨hi, hk⟩ := hk
    refine nm_ld hx hb hK hP 40 15 rfl (by decide) hi d_Mo_step_348 ?_
    refine lv_iload_n hx hb d_Mo_step_349 rfl (lv_at hl 0 rfl) ?_
    refine lv_icmp_lt (tgt := 361) hx hb d_Mo_step_350 rfl (fun hc350 => ?_) (fun hc350 => ?_)
    · skip
      have hk := hk.1 hc350
      refine lv_aload_n hx hb d_Mo_step_361 rfl (lv_at hl 3 rfl) ?_
      refine lv_dup hx hb d_Mo_step_362 rfl ?_
      refine nm_get hx hb hg hown hK hP 35 (by decide) (by decide) (hg _ mw_925) d_Mo_step_363 ?_
      refine lv_iconst (v := 1) hx hb d_Mo_step_366 (by decide) ?_
      refine lv_iadd hx hb d_Mo_step_367 ?_
      refine nm_put hx hb hg hown hK hP hD hS 35 (by decide) (by decide) (by decide) (hg _ mw_925) d_Mo_step_368 (fun H locs hP hD hS => ?_)
      have hR : m_step x = nm_f x 35 ((x.1 35) + 1) := by rw [m_step]; rw [if_neg hk31_0]; rw [if_neg hk31_1]; rw [if_neg hk31_2]; rw [if_neg hk31_3]; rw [if_neg hk31_4]; rw [if_neg hk31_5]; rw [if_neg hk31_6]; rw [if_neg hk31_7]; rw [if_neg hk31_8]; rw [if_neg hk31_9]; rw [if_neg hc337]; rw [if_pos hc350]
      refine nm_W1 hR ?_
      exact W.vret hx hb hr (fun t ht hW => ⟨⟨(), rfl, trivial, ⟨by rw [ht]; exact hP, hD⟩⟩, hS.F ht⟩) hS.2.2 d_Mo_step_371
    · skip
      have hk := hk.2 hc350
      have hl := lv_sub (l' := [(0, .ref mo)]) hl [3] rfl
      have hR : m_step x = k_step_353 x := by rw [m_step]; rw [if_neg hk31_0]; rw [if_neg hk31_1]; rw [if_neg hk31_2]; rw [if_neg hk31_3]; rw [if_neg hk31_4]; rw [if_neg hk31_5]; rw [if_neg hk31_6]; rw [if_neg hk31_7]; rw [if_neg hk31_8]; rw [if_neg hk31_9]; rw [if_neg hc337]; rw [if_neg hc350]
      exact nm_W1 hR (J353 x ls _ _ hk hl hP hD hS)

theorem mw_77 : (.selects R_Mo y_Mo_step y_Mo_step : Cond) ∈ nn_gw := nn_at 77 (by decide +kernel) (by decide +kernel)
theorem mw_1177 : (.methodLink R_Mo 278 y_Mo_step : Cond) ∈ nn_gw := nn_at 1177 (by decide +kernel) (by decide +kernel)
theorem mw_1179 : (.instanceMethod y_Mo_step : Cond) ∈ nn_gw := nn_at 1179 (by decide +kernel) (by decide +kernel)
set_option maxRecDepth 100000 in
theorem mw_1180 : (.code y_Mo_step b_Mo_step 4 none : Cond) ∈ nn_gw := nn_at 1180 (by rfl) (by decide +kernel)
theorem d_Mo_run_0 : decode b_Mo_run 0 = .ok (.aload_n 0, 1) := by decide +kernel
theorem d_Mo_run_1 : decode b_Mo_run 1 = .ok (.iload_n 1, 1) := by decide +kernel
theorem d_Mo_run_2 : decode b_Mo_run 2 = .ok (.ifCond .lt 10, 3) := by decide +kernel
theorem d_Mo_run_5 : decode b_Mo_run 5 = .ok (.iload_n 1, 1) := by decide +kernel
theorem d_Mo_run_6 : decode b_Mo_run 6 = .ok (.sipush 200, 3) := by decide +kernel
theorem d_Mo_run_9 : decode b_Mo_run 9 = .ok (.if_icmp .le 7, 3) := by decide +kernel
theorem d_Mo_run_12 : decode b_Mo_run 12 = .ok (.iconst 1, 1) := by decide +kernel
theorem d_Mo_run_13 : decode b_Mo_run 13 = .ok (.goto 4, 3) := by decide +kernel
theorem d_Mo_run_16 : decode b_Mo_run 16 = .ok (.iconst 0, 1) := by decide +kernel
theorem d_Mo_run_17 : decode b_Mo_run 17 = .ok (.putfield 72, 3) := by decide +kernel
theorem d_Mo_run_20 : decode b_Mo_run 20 = .ok (.iconst 0, 1) := by decide +kernel
theorem d_Mo_run_21 : decode b_Mo_run 21 = .ok (.istore_n 2, 1) := by decide +kernel
theorem d_Mo_run_22 : decode b_Mo_run 22 = .ok (.aload_n 0, 1) := by decide +kernel
theorem d_Mo_run_23 : decode b_Mo_run 23 = .ok (.getfield 72, 3) := by decide +kernel
theorem d_Mo_run_26 : decode b_Mo_run 26 = .ok (.ifCond .ne 26, 3) := by decide +kernel
theorem d_Mo_run_29 : decode b_Mo_run 29 = .ok (.iload_n 2, 1) := by decide +kernel
theorem d_Mo_run_30 : decode b_Mo_run 30 = .ok (.iload_n 1, 1) := by decide +kernel
theorem d_Mo_run_31 : decode b_Mo_run 31 = .ok (.if_icmp .ge 21, 3) := by decide +kernel
theorem d_Mo_run_34 : decode b_Mo_run 34 = .ok (.aload_n 0, 1) := by decide +kernel
theorem d_Mo_run_35 : decode b_Mo_run 35 = .ok (.getfield 239, 3) := by decide +kernel
theorem d_Mo_run_38 : decode b_Mo_run 38 = .ok (.iconst 1, 1) := by decide +kernel
theorem d_Mo_run_39 : decode b_Mo_run 39 = .ok (.if_icmp .ne 13, 3) := by decide +kernel
theorem d_Mo_run_42 : decode b_Mo_run 42 = .ok (.aload_n 0, 1) := by decide +kernel
theorem d_Mo_run_43 : decode b_Mo_run 43 = .ok (.invokevirtual 278, 3) := by decide +kernel
theorem d_Mo_run_46 : decode b_Mo_run 46 = .ok (.iinc 2 1, 3) := by decide +kernel
theorem d_Mo_run_49 : decode b_Mo_run 49 = .ok (.goto (-27), 3) := by decide +kernel
theorem d_Mo_run_52 : decode b_Mo_run 52 = .ok (.iload_n 2, 1) := by decide +kernel
theorem d_Mo_run_53 : decode b_Mo_run 53 = .ok (.ireturn, 1) := by decide +kernel

def k_run_52 (x : nM) (v2 : Int32) : nM × Int32 := (x, v2)
def p_run_52 (x : nM) (v2 : Int32) : Prop := True
def k_run_22 : Nat → nM → Int32 → Int32 → nM × Int32
  | 0, x, v1, v2 => (x, 0)
  | n + 1, x, v1, v2 => (if x.1 0 = 0 then (if v1 ≤ v2 then k_run_52 x v2 else (if x.1 34 = 1 then k_run_22 n (m_step x) v1 (v2 + 1) else k_run_52 x v2)) else k_run_52 x v2)
def p_run_22 : Nat → nM → Int32 → Int32 → Prop
  | 0, _, _, _ => False
  | n + 1, x, v1, v2 => ((x.1 0 = 0 → ((v1 ≤ v2 → p_run_52 x v2) ∧ (¬ (v1 ≤ v2) → ((x.1 34 = 1 → o_step x ∧ p_run_22 n (m_step x) v1 (v2 + 1)) ∧ (¬ (x.1 34 = 1) → p_run_52 x v2))))) ∧ (¬ (x.1 0 = 0) → p_run_52 x v2))
def k_run_17 (x : nM) (v1 : Int32) (w0 : Int32) : nM × Int32 := k_run_22 300 (nm_f x 0 w0) v1 0
def p_run_17 (x : nM) (v1 : Int32) (w0 : Int32) : Prop := p_run_22 300 (nm_f x 0 w0) v1 0
def k_run_12 (x : nM) (v1 : Int32) : nM × Int32 := k_run_17 x v1 1
def p_run_12 (x : nM) (v1 : Int32) : Prop := p_run_17 x v1 1
def m_run (x : nM) (a1 : Int32) : nM × Int32 := (if a1 < 0 then k_run_12 x a1 else (if a1 ≤ 200 then k_run_17 x a1 0 else k_run_12 x a1))
def o_run (x : nM) (a1 : Int32) : Prop := ((a1 < 0 → p_run_12 x a1) ∧ (¬ (a1 < 0) → ((a1 ≤ 200 → p_run_17 x a1 0) ∧ (¬ (a1 ≤ 200) → p_run_12 x a1))))
set_option maxHeartbeats 4000000 in
set_option maxRecDepth 100000 in
theorem t_run (l : Launch) (G : nn_G) (sz : Nat) (mo : Nat) (ad : Nat → Nat) (x : nM) (a1 : Int32) (hk : o_run x a1) : Met l y_Mo_run w_Mo_run ({ frames := 3, cells := 0, slots := 0, locals := 69 }) (nn_P G [.ref mo, .int a1] (nm_W G mo ad x) sz) (nm_Qi G mo ad (m_run x a1) (va_A (nm_W G mo ad x) sz)) 0 0 (va_A (nm_W G mo ad x) sz) := by
  refine Met.ofW (cc := b_Mo_run) (maxL := 3) (ret := some .int) (by decide) rfl ?_
  intro p e s m args below meth c s₁ B hml hv
  obtain ⟨rfl, hsz, hP, hK, hD0, hN⟩ := hv
  have hx := B.exec
  have hb := B.bytes
  have hr := B.returns
  have hts := atoms_spec (ws := w_Mo_run) B.pre
  have hg : ∀ w ∈ nn_gw, w.before _ s = true := fun w h => hts w (List.mem_cons_of_mem _ h)
  have hown : s.vm.findClass R_Mo = some m.cls := findClass_of_methodNamed B.named
  subst hsz
  have hD := hD0.self (sz := s.heap.size)
  generalize hAe : va_A (nm_W G mo ad x) s.heap.size = A at hD ⊢
  have hA : ∀ q : Nat, s.heap.size ≤ q → A q := fun q h => by rw [← hAe]; exact Or.inr h
  clear hAe
  have hS : va_S A s.heap s.heap [] := va_S.rf
  have hP : va_P G.1 nn_cls (nm_W G mo ad x) s.heap := hP
  have hl := lv_entry ([.ref mo, .int a1]) (n := 3) (Nat.le_of_ble_eq_true rfl)
  rw [lg_entry_eq]
  generalize (lg_sl ([.ref mo, .int a1]) ++ List.replicate (3 - (lg_sl ([.ref mo, .int a1])).length) Slot.unset).toArray = ls at hl ⊢
  have hl : lv_has ls 3 [(0, .ref mo), (1, .int a1)] := hl
  have J52 : ∀ (x : nM) (v2 : Int32) (ls : Array Slot) (H : Heap) (locs : List Loc), p_run_52 x v2 → lv_has ls 3 [(2, .int v2)] → va_P G.1 nn_cls (nm_W G mo ad x) H → va_D A (nm_W G mo ad x) → va_S A s.heap H locs → W p l e (headSpec w_Mo_run ({ frames := 3, cells := 0, slots := 0, locals := 69 })).room s m [.ref mo, .int a1].toArray below meth c H locs 0 0 (MQ below (nm_Qi G mo ad (k_run_52 x v2) A) [.ref mo, .int a1].toArray s 0 0 A) (F0 m 52 ls []) := by
    intro x v2 ls H locs hk hl hP hD hS
    unfold p_run_52 at hk
    refine lv_iload_n hx hb d_Mo_run_52 rfl (lv_at hl 0 rfl) ?_
    have hR : k_run_52 x v2 = (x, v2) := by rw [k_run_52]
    refine nm_W2 hR ?_
    exact W.iret (v := v2) hx hb hr (fun t ht hW => ⟨⟨v2, (), rfl, rfl, ⟨by rw [ht]; exact hP, hD⟩⟩, hS.F ht⟩) hS.2.2 d_Mo_run_53
  have J22 : ∀ (n : Nat) (x : nM) (v1 : Int32) (v2 : Int32) (ls : Array Slot) (H : Heap) (locs : List Loc), p_run_22 n x v1 v2 → lv_has ls 3 [(0, .ref mo), (1, .int v1), (2, .int v2)] → va_P G.1 nn_cls (nm_W G mo ad x) H → va_D A (nm_W G mo ad x) → va_S A s.heap H locs → W p l e (headSpec w_Mo_run ({ frames := 3, cells := 0, slots := 0, locals := 69 })).room s m [.ref mo, .int a1].toArray below meth c H locs 0 0 (MQ below (nm_Qi G mo ad (k_run_22 n x v1 v2) A) [.ref mo, .int a1].toArray s 0 0 A) (F0 m 22 ls []) := by
    intro n
    induction n with
    | zero =>
      intro x v1 v2 ls H locs hk
      exact (show False from hk).elim
    | succ n ih =>
      intro x v1 v2 ls H locs hk hl hP hD hS
      unfold p_run_22 at hk
      refine lv_aload_n hx hb d_Mo_run_22 rfl (lv_at hl 0 rfl) ?_
      refine nm_get hx hb hg hown hK hP 0 (by decide) (by decide) (hg _ mw_890) d_Mo_run_23 ?_
      refine lv_if_ne (tgt := 52) hx hb d_Mo_run_26 rfl (fun hc26 => ?_) (fun hc26 => ?_)
      · skip
        have hk := hk.2 hc26
        have hl := lv_sub (l' := [(2, .int v2)]) hl [2] rfl
        have hR : k_run_22 (n + 1) x v1 v2 = k_run_52 x v2 := by rw [k_run_22]; rw [if_neg hc26]
        exact nm_W2 hR (J52 x v2 ls _ _ hk hl hP hD hS)
      · skip
        have hk := hk.1 hc26
        refine lv_iload_n hx hb d_Mo_run_29 rfl (lv_at hl 2 rfl) ?_
        refine lv_iload_n hx hb d_Mo_run_30 rfl (lv_at hl 1 rfl) ?_
        refine lv_icmp_ge (tgt := 52) hx hb d_Mo_run_31 rfl (fun hc31 => ?_) (fun hc31 => ?_)
        · skip
          have hk := hk.1 hc31
          have hl := lv_sub (l' := [(2, .int v2)]) hl [2] rfl
          have hR : k_run_22 (n + 1) x v1 v2 = k_run_52 x v2 := by rw [k_run_22]; rw [if_pos hc26]; rw [if_pos hc31]
          exact nm_W2 hR (J52 x v2 ls _ _ hk hl hP hD hS)
        · skip
          have hk := hk.2 hc31
          refine lv_aload_n hx hb d_Mo_run_34 rfl (lv_at hl 0 rfl) ?_
          refine nm_get hx hb hg hown hK hP 34 (by decide) (by decide) (hg _ mw_924) d_Mo_run_35 ?_
          refine lv_iconst (v := 1) hx hb d_Mo_run_38 (by decide) ?_
          refine lv_icmp_ne (tgt := 52) hx hb d_Mo_run_39 rfl (fun hc39 => ?_) (fun hc39 => ?_)
          · skip
            have hk := hk.2 hc39
            have hl := lv_sub (l' := [(2, .int v2)]) hl [2] rfl
            have hR : k_run_22 (n + 1) x v1 v2 = k_run_52 x v2 := by rw [k_run_22]; rw [if_pos hc26]; rw [if_neg hc31]; rw [if_neg hc39]
            exact nm_W2 hR (J52 x v2 ls _ _ hk hl hP hD hS)
          · skip
            have hk := hk.1 hc39
            refine lv_aload_n hx hb d_Mo_run_42 rfl (lv_at hl 0 rfl) ?_
            obtain ⟨hi, hk⟩ := hk
            have hFc := nm_free hD hS hA
            refine va_callv (va_runV (As := []) (rest := []) ⟨hx, hb, hml, hown, hts⟩ (t_step l G _ mo ad x hi) (cwV 0 hts (nn_gV mw_1180 mw_1177 mw_1179 mw_77 mw_94) rfl rfl rfl (by decide +kernel) ⟨Nat.le_of_ble_eq_true rfl, Nat.le_of_ble_eq_true rfl⟩) (nn_preV (va_recv hK hP rfl (q0 := 0) rfl) hP hD hK hN) rfl rfl hl.1 rfl (lv_room (Nat.le_of_ble_eq_true rfl)) d_Mo_run_43 ⟨Nat.le_of_ble_eq_true rfl, Nat.le_of_ble_eq_true rfl⟩) hS (fun q _ h => hFc q h) hFc (fun u t H locs ht hvm hw hB hz1 hk1 hS => ?_)
            obtain ⟨hP1, hD1⟩ := hB
            rw [ht] at hP1
            have hP := hP1
            have hD := hD1.weaken (fun _ _ _ h => hFc _ h)
            refine lv_iinc (k := 2) (v := v2 + 1) (lv' := [(2, .int (v2 + 1)), (0, .ref mo), (1, .int v1)]) hx hb d_Mo_run_46 hl rfl (rfl) (by decide) rfl (fun ls hl => ?_)
            refine lv_goto (tgt := 22) hx hb d_Mo_run_49 rfl ?_
            have hl := lv_sub (l' := [(0, .ref mo), (1, .int v1), (2, .int (v2 + 1))]) hl [1, 2, 0] rfl
            have hR : k_run_22 (n + 1) x v1 v2 = k_run_22 n (m_step x) v1 (v2 + 1) := by rw [k_run_22]; rw [if_pos hc26]; rw [if_neg hc31]; rw [if_pos hc39]
            exact nm_W2 hR (ih (m_step x) v1 (v2 + 1) ls _ _ hk hl hP hD hS)
  have J17 : ∀ (x : nM) (v1 : Int32) (w0 : Int32) (ls : Array Slot) (H : Heap) (locs : List Loc), p_run_17 x v1 w0 → lv_has ls 3 [(0, .ref mo), (1, .int v1)] → va_P G.1 nn_cls (nm_W G mo ad x) H → va_D A (nm_W G mo ad x) → va_S A s.heap H locs → W p l e (headSpec w_Mo_run ({ frames := 3, cells := 0, slots := 0, locals := 69 })).room s m [.ref mo, .int a1].toArray below meth c H locs 0 0 (MQ below (nm_Qi G mo ad (k_run_17 x v1 w0) A) [.ref mo, .int a1].toArray s 0 0 A) (F0 m 17 ls [.int w0, .ref mo]) := by
    intro x v1 w0 ls H locs hk hl hP hD hS
    unfold p_run_17 at hk
    refine nm_put hx hb hg hown hK hP hD hS 0 (by decide) (by decide) (by decide) (hg _ mw_890) d_Mo_run_17 (fun H locs hP hD hS => ?_)
    refine lv_iconst (v := 0) hx hb d_Mo_run_20 (by decide) ?_
    refine lv_istore_n (lv' := [(2, .int 0), (0, .ref mo), (1, .int v1)]) hx hb d_Mo_run_21 rfl hl (by decide) rfl (fun ls hl => ?_)
    have hl := lv_sub (l' := [(0, .ref mo), (1, .int v1), (2, .int 0)]) hl [1, 2, 0] rfl
    have hR : k_run_17 x v1 w0 = k_run_22 300 (nm_f x 0 w0) v1 0 := by rw [k_run_17]
    exact nm_W2 hR (J22 300 (nm_f x 0 w0) v1 0 ls _ _ hk hl hP hD hS)
  have J12 : ∀ (x : nM) (v1 : Int32) (ls : Array Slot) (H : Heap) (locs : List Loc), p_run_12 x v1 → lv_has ls 3 [(0, .ref mo), (1, .int v1)] → va_P G.1 nn_cls (nm_W G mo ad x) H → va_D A (nm_W G mo ad x) → va_S A s.heap H locs → W p l e (headSpec w_Mo_run ({ frames := 3, cells := 0, slots := 0, locals := 69 })).room s m [.ref mo, .int a1].toArray below meth c H locs 0 0 (MQ below (nm_Qi G mo ad (k_run_12 x v1) A) [.ref mo, .int a1].toArray s 0 0 A) (F0 m 12 ls [.ref mo]) := by
    intro x v1 ls H locs hk hl hP hD hS
    unfold p_run_12 at hk
    refine lv_iconst (v := 1) hx hb d_Mo_run_12 (by decide) ?_
    refine lv_goto (tgt := 17) hx hb d_Mo_run_13 rfl ?_
    have hl := lv_sub (l' := [(0, .ref mo), (1, .int v1)]) hl [0, 1] rfl
    have hR : k_run_12 x v1 = k_run_17 x v1 1 := by rw [k_run_12]
    exact nm_W2 hR (J17 x v1 1 ls _ _ hk hl hP hD hS)
  unfold o_run at hk
  refine lv_aload_n hx hb d_Mo_run_0 rfl (lv_at hl 0 rfl) ?_
  refine lv_iload_n hx hb d_Mo_run_1 rfl (lv_at hl 1 rfl) ?_
  refine lv_if_lt (tgt := 12) hx hb d_Mo_run_2 rfl (fun hc2 => ?_) (fun hc2 => ?_)
  · skip
    have hk := hk.1 hc2
    have hl := lv_sub (l' := [(0, .ref mo), (1, .int a1)]) hl [0, 1] rfl
    have hR : m_run x a1 = k_run_12 x a1 := by rw [m_run]; rw [if_pos hc2]
    exact nm_W2 hR (J12 x a1 ls _ _ hk hl hP hD hS)
  · skip
    have hk := hk.2 hc2
    refine lv_iload_n hx hb d_Mo_run_5 rfl (lv_at hl 1 rfl) ?_
    refine lv_sipush (v := 200) hx hb d_Mo_run_6 (by decide) ?_
    refine lv_icmp_le (tgt := 16) hx hb d_Mo_run_9 rfl (fun hc9 => ?_) (fun hc9 => ?_)
    · skip
      have hk := hk.1 hc9
      refine lv_iconst (v := 0) hx hb d_Mo_run_16 (by decide) ?_
      have hl := lv_sub (l' := [(0, .ref mo), (1, .int a1)]) hl [0, 1] rfl
      have hR : m_run x a1 = k_run_17 x a1 0 := by rw [m_run]; rw [if_neg hc2]; rw [if_pos hc9]
      exact nm_W2 hR (J17 x a1 0 ls _ _ hk hl hP hD hS)
    · skip
      have hk := hk.2 hc9
      have hl := lv_sub (l' := [(0, .ref mo), (1, .int a1)]) hl [0, 1] rfl
      have hR : m_run x a1 = k_run_12 x a1 := by rw [m_run]; rw [if_neg hc2]; rw [if_neg hc9]
      exact nm_W2 hR (J12 x a1 ls _ _ hk hl hP hD hS)

theorem d_Mo_about_0 : decode b_Mo_about 0 = .ok (.aload_n 0, 1) := by decide +kernel
theorem d_Mo_about_1 : decode b_Mo_about 1 = .ok (.iconst 0, 1) := by decide +kernel
theorem d_Mo_about_2 : decode b_Mo_about 2 = .ok (.putfield 72, 3) := by decide +kernel
theorem d_Mo_about_5 : decode b_Mo_about 5 = .ok (.iload_n 1, 1) := by decide +kernel
theorem d_Mo_about_6 : decode b_Mo_about 6 = .ok (.tableswitch 68 0 5 #[38, 43, 48, 53, 58, 63], 38) := by decide +kernel
theorem d_Mo_about_44 : decode b_Mo_about 44 = .ok (.aload_n 0, 1) := by decide +kernel
theorem d_Mo_about_45 : decode b_Mo_about 45 = .ok (.getfield 239, 3) := by decide +kernel
theorem d_Mo_about_48 : decode b_Mo_about 48 = .ok (.ireturn, 1) := by decide +kernel
theorem d_Mo_about_49 : decode b_Mo_about 49 = .ok (.aload_n 0, 1) := by decide +kernel
theorem d_Mo_about_50 : decode b_Mo_about 50 = .ok (.getfield 242, 3) := by decide +kernel
theorem d_Mo_about_53 : decode b_Mo_about 53 = .ok (.ireturn, 1) := by decide +kernel
theorem d_Mo_about_54 : decode b_Mo_about 54 = .ok (.aload_n 0, 1) := by decide +kernel
theorem d_Mo_about_55 : decode b_Mo_about 55 = .ok (.getfield 245, 3) := by decide +kernel
theorem d_Mo_about_58 : decode b_Mo_about 58 = .ok (.ireturn, 1) := by decide +kernel
theorem d_Mo_about_59 : decode b_Mo_about 59 = .ok (.aload_n 0, 1) := by decide +kernel
theorem d_Mo_about_60 : decode b_Mo_about 60 = .ok (.getfield 63, 3) := by decide +kernel
theorem d_Mo_about_63 : decode b_Mo_about 63 = .ok (.ireturn, 1) := by decide +kernel
theorem d_Mo_about_64 : decode b_Mo_about 64 = .ok (.aload_n 0, 1) := by decide +kernel
theorem d_Mo_about_65 : decode b_Mo_about 65 = .ok (.getfield 248, 3) := by decide +kernel
theorem d_Mo_about_68 : decode b_Mo_about 68 = .ok (.ireturn, 1) := by decide +kernel
theorem d_Mo_about_69 : decode b_Mo_about 69 = .ok (.aload_n 0, 1) := by decide +kernel
theorem d_Mo_about_70 : decode b_Mo_about 70 = .ok (.getfield 251, 3) := by decide +kernel
theorem d_Mo_about_73 : decode b_Mo_about 73 = .ok (.ireturn, 1) := by decide +kernel
theorem d_Mo_about_74 : decode b_Mo_about 74 = .ok (.iconst (-1), 1) := by decide +kernel
theorem d_Mo_about_75 : decode b_Mo_about 75 = .ok (.ireturn, 1) := by decide +kernel

def m_about (x : nM) (a1 : Int32) : nM × Int32 := (if a1 = 0 then (nm_f x 0 0, x.1 34) else (if a1 = 1 then (nm_f x 0 0, x.1 35) else (if a1 = 2 then (nm_f x 0 0, x.1 36) else (if a1 = 3 then (nm_f x 0 0, x.1 37) else (if a1 = 4 then (nm_f x 0 0, x.1 38) else (if a1 = 5 then (nm_f x 0 0, x.1 39) else (nm_f x 0 0, (-1))))))))
def o_about (x : nM) (a1 : Int32) : Prop := ((a1 = 0 → True) ∧ (¬ (a1 = 0) → ((a1 = 1 → True) ∧ (¬ (a1 = 1) → ((a1 = 2 → True) ∧ (¬ (a1 = 2) → ((a1 = 3 → True) ∧ (¬ (a1 = 3) → ((a1 = 4 → True) ∧ (¬ (a1 = 4) → ((a1 = 5 → True) ∧ (¬ (a1 = 5) → True))))))))))))
set_option maxHeartbeats 4000000 in
set_option maxRecDepth 100000 in
theorem t_about (l : Launch) (G : nn_G) (sz : Nat) (mo : Nat) (ad : Nat → Nat) (x : nM) (a1 : Int32) (hk : o_about x a1) : Met l y_Mo_about w_Mo_about ({ frames := 0, cells := 0, slots := 0, locals := 0 }) (nn_P G [.ref mo, .int a1] (nm_W G mo ad x) sz) (nm_Qi G mo ad (m_about x a1) (va_A (nm_W G mo ad x) sz)) 0 0 (va_A (nm_W G mo ad x) sz) := by
  refine Met.ofW (cc := b_Mo_about) (maxL := 2) (ret := some .int) (by decide) rfl ?_
  intro p e s m args below meth c s₁ B hml hv
  obtain ⟨rfl, hsz, hP, hK, hD0, hN⟩ := hv
  have hx := B.exec
  have hb := B.bytes
  have hr := B.returns
  have hts := atoms_spec (ws := w_Mo_about) B.pre
  have hg : ∀ w ∈ nn_gw, w.before _ s = true := fun w h => hts w (List.mem_cons_of_mem _ h)
  have hown : s.vm.findClass R_Mo = some m.cls := findClass_of_methodNamed B.named
  subst hsz
  have hD := hD0.self (sz := s.heap.size)
  generalize hAe : va_A (nm_W G mo ad x) s.heap.size = A at hD ⊢
  have hA : ∀ q : Nat, s.heap.size ≤ q → A q := fun q h => by rw [← hAe]; exact Or.inr h
  clear hAe
  have hS : va_S A s.heap s.heap [] := va_S.rf
  have hP : va_P G.1 nn_cls (nm_W G mo ad x) s.heap := hP
  have hl := lv_entry ([.ref mo, .int a1]) (n := 2) (Nat.le_of_ble_eq_true rfl)
  rw [lg_entry_eq]
  generalize (lg_sl ([.ref mo, .int a1]) ++ List.replicate (2 - (lg_sl ([.ref mo, .int a1])).length) Slot.unset).toArray = ls at hl ⊢
  have hl : lv_has ls 2 [(0, .ref mo), (1, .int a1)] := hl
  unfold o_about at hk
  refine lv_aload_n hx hb d_Mo_about_0 rfl (lv_at hl 0 rfl) ?_
  refine lv_iconst (v := 0) hx hb d_Mo_about_1 (by decide) ?_
  refine nm_put hx hb hg hown hK hP hD hS 0 (by decide) (by decide) (by decide) (hg _ mw_890) d_Mo_about_2 (fun H locs hP hD hS => ?_)
  refine lv_iload_n hx hb d_Mo_about_5 rfl (lv_at hl 1 rfl) ?_
  by_cases hk6_0 : a1 = 0
  · skip
    have hk := hk.1 hk6_0
    refine lv_tableIn (off := 38) (tgt := 44) hx hb d_Mo_about_6 (by rw [hk6_0]; decide) (by rw [hk6_0]; decide) (by rw [hk6_0]; decide) rfl ?_
    refine lv_aload_n hx hb d_Mo_about_44 rfl (lv_at hl 0 rfl) ?_
    refine nm_get hx hb hg hown hK hP 34 (by decide) (by decide) (hg _ mw_924) d_Mo_about_45 ?_
    refine nb_top (x.1 34) rfl ?_
    have hR : m_about x a1 = (nm_f x 0 0, x.1 34) := by rw [m_about]; rw [if_pos hk6_0]
    refine nm_W2 hR ?_
    exact W.iret (v := x.1 34) hx hb hr (fun t ht hW => ⟨⟨x.1 34, (), rfl, rfl, ⟨by rw [ht]; exact hP, hD⟩⟩, hS.F ht⟩) hS.2.2 d_Mo_about_48
  by_cases hk6_1 : a1 = 1
  · skip
    have hk := (hk.2 hk6_0).1 hk6_1
    refine lv_tableIn (off := 43) (tgt := 49) hx hb d_Mo_about_6 (by rw [hk6_1]; decide) (by rw [hk6_1]; decide) (by rw [hk6_1]; decide) rfl ?_
    refine lv_aload_n hx hb d_Mo_about_49 rfl (lv_at hl 0 rfl) ?_
    refine nm_get hx hb hg hown hK hP 35 (by decide) (by decide) (hg _ mw_925) d_Mo_about_50 ?_
    refine nb_top (x.1 35) rfl ?_
    have hR : m_about x a1 = (nm_f x 0 0, x.1 35) := by rw [m_about]; rw [if_neg hk6_0]; rw [if_pos hk6_1]
    refine nm_W2 hR ?_
    exact W.iret (v := x.1 35) hx hb hr (fun t ht hW => ⟨⟨x.1 35, (), rfl, rfl, ⟨by rw [ht]; exact hP, hD⟩⟩, hS.F ht⟩) hS.2.2 d_Mo_about_53
  by_cases hk6_2 : a1 = 2
  · skip
    have hk := ((hk.2 hk6_0).2 hk6_1).1 hk6_2
    refine lv_tableIn (off := 48) (tgt := 54) hx hb d_Mo_about_6 (by rw [hk6_2]; decide) (by rw [hk6_2]; decide) (by rw [hk6_2]; decide) rfl ?_
    refine lv_aload_n hx hb d_Mo_about_54 rfl (lv_at hl 0 rfl) ?_
    refine nm_get hx hb hg hown hK hP 36 (by decide) (by decide) (hg _ mw_926) d_Mo_about_55 ?_
    refine nb_top (x.1 36) rfl ?_
    have hR : m_about x a1 = (nm_f x 0 0, x.1 36) := by rw [m_about]; rw [if_neg hk6_0]; rw [if_neg hk6_1]; rw [if_pos hk6_2]
    refine nm_W2 hR ?_
    exact W.iret (v := x.1 36) hx hb hr (fun t ht hW => ⟨⟨x.1 36, (), rfl, rfl, ⟨by rw [ht]; exact hP, hD⟩⟩, hS.F ht⟩) hS.2.2 d_Mo_about_58
  by_cases hk6_3 : a1 = 3
  · skip
    have hk := (((hk.2 hk6_0).2 hk6_1).2 hk6_2).1 hk6_3
    refine lv_tableIn (off := 53) (tgt := 59) hx hb d_Mo_about_6 (by rw [hk6_3]; decide) (by rw [hk6_3]; decide) (by rw [hk6_3]; decide) rfl ?_
    refine lv_aload_n hx hb d_Mo_about_59 rfl (lv_at hl 0 rfl) ?_
    refine nm_get hx hb hg hown hK hP 37 (by decide) (by decide) (hg _ mw_927) d_Mo_about_60 ?_
    refine nb_top (x.1 37) rfl ?_
    have hR : m_about x a1 = (nm_f x 0 0, x.1 37) := by rw [m_about]; rw [if_neg hk6_0]; rw [if_neg hk6_1]; rw [if_neg hk6_2]; rw [if_pos hk6_3]
    refine nm_W2 hR ?_
    exact W.iret (v := x.1 37) hx hb hr (fun t ht hW => ⟨⟨x.1 37, (), rfl, rfl, ⟨by rw [ht]; exact hP, hD⟩⟩, hS.F ht⟩) hS.2.2 d_Mo_about_63
  by_cases hk6_4 : a1 = 4
  · skip
    have hk := ((((hk.2 hk6_0).2 hk6_1).2 hk6_2).2 hk6_3).1 hk6_4
    refine lv_tableIn (off := 58) (tgt := 64) hx hb d_Mo_about_6 (by rw [hk6_4]; decide) (by rw [hk6_4]; decide) (by rw [hk6_4]; decide) rfl ?_
    refine lv_aload_n hx hb d_Mo_about_64 rfl (lv_at hl 0 rfl) ?_
    refine nm_get hx hb hg hown hK hP 38 (by decide) (by decide) (hg _ mw_928) d_Mo_about_65 ?_
    refine nb_top (x.1 38) rfl ?_
    have hR : m_about x a1 = (nm_f x 0 0, x.1 38) := by rw [m_about]; rw [if_neg hk6_0]; rw [if_neg hk6_1]; rw [if_neg hk6_2]; rw [if_neg hk6_3]; rw [if_pos hk6_4]
    refine nm_W2 hR ?_
    exact W.iret (v := x.1 38) hx hb hr (fun t ht hW => ⟨⟨x.1 38, (), rfl, rfl, ⟨by rw [ht]; exact hP, hD⟩⟩, hS.F ht⟩) hS.2.2 d_Mo_about_68
  by_cases hk6_5 : a1 = 5
  · skip
    have hk := (((((hk.2 hk6_0).2 hk6_1).2 hk6_2).2 hk6_3).2 hk6_4).1 hk6_5
    refine lv_tableIn (off := 63) (tgt := 69) hx hb d_Mo_about_6 (by rw [hk6_5]; decide) (by rw [hk6_5]; decide) (by rw [hk6_5]; decide) rfl ?_
    refine lv_aload_n hx hb d_Mo_about_69 rfl (lv_at hl 0 rfl) ?_
    refine nm_get hx hb hg hown hK hP 39 (by decide) (by decide) (hg _ mw_929) d_Mo_about_70 ?_
    refine nb_top (x.1 39) rfl ?_
    have hR : m_about x a1 = (nm_f x 0 0, x.1 39) := by rw [m_about]; rw [if_neg hk6_0]; rw [if_neg hk6_1]; rw [if_neg hk6_2]; rw [if_neg hk6_3]; rw [if_neg hk6_4]; rw [if_pos hk6_5]
    refine nm_W2 hR ?_
    exact W.iret (v := x.1 39) hx hb hr (fun t ht hW => ⟨⟨x.1 39, (), rfl, rfl, ⟨by rw [ht]; exact hP, hD⟩⟩, hS.F ht⟩) hS.2.2 d_Mo_about_73
  have hk := ((((((hk.2 hk6_0).2 hk6_1).2 hk6_2).2 hk6_3).2 hk6_4).2 hk6_5)
  refine lv_tableOut (tgt := 74) hx hb d_Mo_about_6 (by have q0 := lv_neT hk6_0 (show (0 : Int32).toInt = 0 by decide); have q1 := lv_neT hk6_1 (show (1 : Int32).toInt = 1 by decide); have q2 := lv_neT hk6_2 (show (2 : Int32).toInt = 2 by decide); have q3 := lv_neT hk6_3 (show (3 : Int32).toInt = 3 by decide); have q4 := lv_neT hk6_4 (show (4 : Int32).toInt = 4 by decide); have q5 := lv_neT hk6_5 (show (5 : Int32).toInt = 5 by decide); omega) rfl ?_
  refine lv_iconst (v := (-1)) hx hb d_Mo_about_74 (by decide) ?_
  have hR : m_about x a1 = (nm_f x 0 0, (-1)) := by rw [m_about]; rw [if_neg hk6_0]; rw [if_neg hk6_1]; rw [if_neg hk6_2]; rw [if_neg hk6_3]; rw [if_neg hk6_4]; rw [if_neg hk6_5]
  refine nm_W2 hR ?_
  exact W.iret (v := (-1)) hx hb hr (fun t ht hW => ⟨⟨(-1), (), rfl, rfl, ⟨by rw [ht]; exact hP, hD⟩⟩, hS.F ht⟩) hS.2.2 d_Mo_about_75

theorem d_Mo_cell_0 : decode b_Mo_cell 0 = .ok (.aload_n 0, 1) := by decide +kernel
theorem d_Mo_cell_1 : decode b_Mo_cell 1 = .ok (.iconst 0, 1) := by decide +kernel
theorem d_Mo_cell_2 : decode b_Mo_cell 2 = .ok (.putfield 72, 3) := by decide +kernel
theorem d_Mo_cell_5 : decode b_Mo_cell 5 = .ok (.iload_n 1, 1) := by decide +kernel
theorem d_Mo_cell_6 : decode b_Mo_cell 6 = .ok (.ifCond .lt 40, 3) := by decide +kernel
theorem d_Mo_cell_9 : decode b_Mo_cell 9 = .ok (.iload_n 1, 1) := by decide +kernel
theorem d_Mo_cell_10 : decode b_Mo_cell 10 = .ok (.sipush 200, 3) := by decide +kernel
theorem d_Mo_cell_13 : decode b_Mo_cell 13 = .ok (.if_icmp .ge 33, 3) := by decide +kernel
theorem d_Mo_cell_16 : decode b_Mo_cell 16 = .ok (.iload_n 1, 1) := by decide +kernel
theorem d_Mo_cell_17 : decode b_Mo_cell 17 = .ok (.aload_n 0, 1) := by decide +kernel
theorem d_Mo_cell_18 : decode b_Mo_cell 18 = .ok (.getfield 63, 3) := by decide +kernel
theorem d_Mo_cell_21 : decode b_Mo_cell 21 = .ok (.if_icmp .le 21, 3) := by decide +kernel
theorem d_Mo_cell_24 : decode b_Mo_cell 24 = .ok (.iload_n 1, 1) := by decide +kernel
theorem d_Mo_cell_25 : decode b_Mo_cell 25 = .ok (.aload_n 0, 1) := by decide +kernel
theorem d_Mo_cell_26 : decode b_Mo_cell 26 = .ok (.getfield 245, 3) := by decide +kernel
theorem d_Mo_cell_29 : decode b_Mo_cell 29 = .ok (.if_icmp .lt 17, 3) := by decide +kernel
theorem d_Mo_cell_32 : decode b_Mo_cell 32 = .ok (.iload_n 1, 1) := by decide +kernel
theorem d_Mo_cell_33 : decode b_Mo_cell 33 = .ok (.aload_n 0, 1) := by decide +kernel
theorem d_Mo_cell_34 : decode b_Mo_cell 34 = .ok (.getfield 245, 3) := by decide +kernel
theorem d_Mo_cell_37 : decode b_Mo_cell 37 = .ok (.iconst 3, 1) := by decide +kernel
theorem d_Mo_cell_38 : decode b_Mo_cell 38 = .ok (.iadd, 1) := by decide +kernel
theorem d_Mo_cell_39 : decode b_Mo_cell 39 = .ok (.if_icmp .ge 7, 3) := by decide +kernel
theorem d_Mo_cell_42 : decode b_Mo_cell 42 = .ok (.iconst 1, 1) := by decide +kernel
theorem d_Mo_cell_43 : decode b_Mo_cell 43 = .ok (.goto 4, 3) := by decide +kernel
theorem d_Mo_cell_46 : decode b_Mo_cell 46 = .ok (.iconst 0, 1) := by decide +kernel
theorem d_Mo_cell_47 : decode b_Mo_cell 47 = .ok (.istore_n 2, 1) := by decide +kernel
theorem d_Mo_cell_48 : decode b_Mo_cell 48 = .ok (.iload_n 2, 1) := by decide +kernel
theorem d_Mo_cell_49 : decode b_Mo_cell 49 = .ok (.ifCond .eq 12, 3) := by decide +kernel
theorem d_Mo_cell_52 : decode b_Mo_cell 52 = .ok (.aload_n 0, 1) := by decide +kernel
theorem d_Mo_cell_53 : decode b_Mo_cell 53 = .ok (.getfield 66, 3) := by decide +kernel
theorem d_Mo_cell_56 : decode b_Mo_cell 56 = .ok (.iload_n 1, 1) := by decide +kernel
theorem d_Mo_cell_57 : decode b_Mo_cell 57 = .ok (.iaload, 1) := by decide +kernel
theorem d_Mo_cell_58 : decode b_Mo_cell 58 = .ok (.goto 4, 3) := by decide +kernel
theorem d_Mo_cell_61 : decode b_Mo_cell 61 = .ok (.iconst 0, 1) := by decide +kernel
theorem d_Mo_cell_62 : decode b_Mo_cell 62 = .ok (.ireturn, 1) := by decide +kernel

def k_cell_47 (x : nM) (v1 : Int32) (w0 : Int32) : nM × Int32 := (if w0 = 0 then (x, 0) else (x, nm_g x 40 v1))
def p_cell_47 (x : nM) (v1 : Int32) (w0 : Int32) : Prop := ((w0 = 0 → True) ∧ (¬ (w0 = 0) → vp_in v1 200 ∧ True))
def k_cell_46 (x : nM) (v1 : Int32) : nM × Int32 := k_cell_47 x v1 0
def p_cell_46 (x : nM) (v1 : Int32) : Prop := p_cell_47 x v1 0
def k_cell_42 (x : nM) (v1 : Int32) : nM × Int32 := k_cell_47 x v1 1
def p_cell_42 (x : nM) (v1 : Int32) : Prop := p_cell_47 x v1 1
def m_cell (x : nM) (a1 : Int32) : nM × Int32 := (if a1 < 0 then k_cell_46 (nm_f x 0 0) a1 else (if 200 ≤ a1 then k_cell_46 (nm_f x 0 0) a1 else (if a1 ≤ x.1 37 then k_cell_42 (nm_f x 0 0) a1 else (if a1 < x.1 36 then k_cell_46 (nm_f x 0 0) a1 else (if (x.1 36) + 3 ≤ a1 then k_cell_46 (nm_f x 0 0) a1 else k_cell_42 (nm_f x 0 0) a1)))))
def o_cell (x : nM) (a1 : Int32) : Prop := ((a1 < 0 → p_cell_46 (nm_f x 0 0) a1) ∧ (¬ (a1 < 0) → ((200 ≤ a1 → p_cell_46 (nm_f x 0 0) a1) ∧ (¬ (200 ≤ a1) → ((a1 ≤ x.1 37 → p_cell_42 (nm_f x 0 0) a1) ∧ (¬ (a1 ≤ x.1 37) → ((a1 < x.1 36 → p_cell_46 (nm_f x 0 0) a1) ∧ (¬ (a1 < x.1 36) → (((x.1 36) + 3 ≤ a1 → p_cell_46 (nm_f x 0 0) a1) ∧ (¬ ((x.1 36) + 3 ≤ a1) → p_cell_42 (nm_f x 0 0) a1))))))))))
set_option maxHeartbeats 4000000 in
set_option maxRecDepth 100000 in
theorem t_cell (l : Launch) (G : nn_G) (sz : Nat) (mo : Nat) (ad : Nat → Nat) (x : nM) (a1 : Int32) (hk : o_cell x a1) : Met l y_Mo_cell w_Mo_cell ({ frames := 0, cells := 0, slots := 0, locals := 0 }) (nn_P G [.ref mo, .int a1] (nm_W G mo ad x) sz) (nm_Qi G mo ad (m_cell x a1) (va_A (nm_W G mo ad x) sz)) 0 0 (va_A (nm_W G mo ad x) sz) := by
  refine Met.ofW (cc := b_Mo_cell) (maxL := 3) (ret := some .int) (by decide) rfl ?_
  intro p e s m args below meth c s₁ B hml hv
  obtain ⟨rfl, hsz, hP, hK, hD0, hN⟩ := hv
  have hx := B.exec
  have hb := B.bytes
  have hr := B.returns
  have hts := atoms_spec (ws := w_Mo_cell) B.pre
  have hg : ∀ w ∈ nn_gw, w.before _ s = true := fun w h => hts w (List.mem_cons_of_mem _ h)
  have hown : s.vm.findClass R_Mo = some m.cls := findClass_of_methodNamed B.named
  subst hsz
  have hD := hD0.self (sz := s.heap.size)
  generalize hAe : va_A (nm_W G mo ad x) s.heap.size = A at hD ⊢
  have hA : ∀ q : Nat, s.heap.size ≤ q → A q := fun q h => by rw [← hAe]; exact Or.inr h
  clear hAe
  have hS : va_S A s.heap s.heap [] := va_S.rf
  have hP : va_P G.1 nn_cls (nm_W G mo ad x) s.heap := hP
  have hl := lv_entry ([.ref mo, .int a1]) (n := 3) (Nat.le_of_ble_eq_true rfl)
  rw [lg_entry_eq]
  generalize (lg_sl ([.ref mo, .int a1]) ++ List.replicate (3 - (lg_sl ([.ref mo, .int a1])).length) Slot.unset).toArray = ls at hl ⊢
  have hl : lv_has ls 3 [(0, .ref mo), (1, .int a1)] := hl
  have J47 : ∀ (x : nM) (v1 : Int32) (w0 : Int32) (ls : Array Slot) (H : Heap) (locs : List Loc), p_cell_47 x v1 w0 → lv_has ls 3 [(0, .ref mo), (1, .int v1)] → va_P G.1 nn_cls (nm_W G mo ad x) H → va_D A (nm_W G mo ad x) → va_S A s.heap H locs → W p l e (headSpec w_Mo_cell ({ frames := 0, cells := 0, slots := 0, locals := 0 })).room s m [.ref mo, .int a1].toArray below meth c H locs 0 0 (MQ below (nm_Qi G mo ad (k_cell_47 x v1 w0) A) [.ref mo, .int a1].toArray s 0 0 A) (F0 m 47 ls [.int w0]) := by
    intro x v1 w0 ls H locs hk hl hP hD hS
    unfold p_cell_47 at hk
    refine lv_istore_n (lv' := [(2, .int w0), (0, .ref mo), (1, .int v1)]) hx hb d_Mo_cell_47 rfl hl (by decide) rfl (fun ls hl => ?_)
    refine lv_iload_n hx hb d_Mo_cell_48 rfl (lv_at hl 0 rfl) ?_
    refine lv_if_eq (tgt := 61) hx hb d_Mo_cell_49 rfl (fun hc49 => ?_) (fun hc49 => ?_)
    · skip
      have hk := hk.1 hc49
      refine lv_iconst (v := 0) hx hb d_Mo_cell_61 (by decide) ?_
      have hR : k_cell_47 x v1 w0 = (x, 0) := by rw [k_cell_47]; rw [if_pos hc49]
      refine nm_W2 hR ?_
      exact W.iret (v := 0) hx hb hr (fun t ht hW => ⟨⟨0, (), rfl, rfl, ⟨by rw [ht]; exact hP, hD⟩⟩, hS.F ht⟩) hS.2.2 d_Mo_cell_62
    · skip
      have hk := hk.2 hc49
      refine lv_aload_n hx hb d_Mo_cell_52 rfl (lv_at hl 1 rfl) ?_
      refine nm_getA hx hb hg hown hK hP 40 (by decide) (by decide) (hg _ mw_930) d_Mo_cell_53 ?_
      refine lv_iload_n hx hb d_Mo_cell_56 rfl (lv_at hl 2 rfl) ?_
      obtain ⟨hi, hk⟩ := hk
      refine nm_ld hx hb hK hP 40 15 rfl (by decide) hi d_Mo_cell_57 ?_
      refine lv_goto (tgt := 62) hx hb d_Mo_cell_58 rfl ?_
      have hR : k_cell_47 x v1 w0 = (x, nm_g x 40 v1) := by rw [k_cell_47]; rw [if_neg hc49]
      refine nm_W2 hR ?_
      exact W.iret (v := nm_g x 40 v1) hx hb hr (fun t ht hW => ⟨⟨nm_g x 40 v1, (), rfl, rfl, ⟨by rw [ht]; exact hP, hD⟩⟩, hS.F ht⟩) hS.2.2 d_Mo_cell_62
  have J46 : ∀ (x : nM) (v1 : Int32) (ls : Array Slot) (H : Heap) (locs : List Loc), p_cell_46 x v1 → lv_has ls 3 [(0, .ref mo), (1, .int v1)] → va_P G.1 nn_cls (nm_W G mo ad x) H → va_D A (nm_W G mo ad x) → va_S A s.heap H locs → W p l e (headSpec w_Mo_cell ({ frames := 0, cells := 0, slots := 0, locals := 0 })).room s m [.ref mo, .int a1].toArray below meth c H locs 0 0 (MQ below (nm_Qi G mo ad (k_cell_46 x v1) A) [.ref mo, .int a1].toArray s 0 0 A) (F0 m 46 ls []) := by
    intro x v1 ls H locs hk hl hP hD hS
    unfold p_cell_46 at hk
    refine lv_iconst (v := 0) hx hb d_Mo_cell_46 (by decide) ?_
    have hl := lv_sub (l' := [(0, .ref mo), (1, .int v1)]) hl [0, 1] rfl
    have hR : k_cell_46 x v1 = k_cell_47 x v1 0 := by rw [k_cell_46]
    exact nm_W2 hR (J47 x v1 0 ls _ _ hk hl hP hD hS)
  have J42 : ∀ (x : nM) (v1 : Int32) (ls : Array Slot) (H : Heap) (locs : List Loc), p_cell_42 x v1 → lv_has ls 3 [(0, .ref mo), (1, .int v1)] → va_P G.1 nn_cls (nm_W G mo ad x) H → va_D A (nm_W G mo ad x) → va_S A s.heap H locs → W p l e (headSpec w_Mo_cell ({ frames := 0, cells := 0, slots := 0, locals := 0 })).room s m [.ref mo, .int a1].toArray below meth c H locs 0 0 (MQ below (nm_Qi G mo ad (k_cell_42 x v1) A) [.ref mo, .int a1].toArray s 0 0 A) (F0 m 42 ls []) := by
    intro x v1 ls H locs hk hl hP hD hS
    unfold p_cell_42 at hk
    refine lv_iconst (v := 1) hx hb d_Mo_cell_42 (by decide) ?_
    refine lv_goto (tgt := 47) hx hb d_Mo_cell_43 rfl ?_
    have hl := lv_sub (l' := [(0, .ref mo), (1, .int v1)]) hl [0, 1] rfl
    have hR : k_cell_42 x v1 = k_cell_47 x v1 1 := by rw [k_cell_42]
    exact nm_W2 hR (J47 x v1 1 ls _ _ hk hl hP hD hS)
  unfold o_cell at hk
  refine lv_aload_n hx hb d_Mo_cell_0 rfl (lv_at hl 0 rfl) ?_
  refine lv_iconst (v := 0) hx hb d_Mo_cell_1 (by decide) ?_
  refine nm_put hx hb hg hown hK hP hD hS 0 (by decide) (by decide) (by decide) (hg _ mw_890) d_Mo_cell_2 (fun H locs hP hD hS => ?_)
  refine lv_iload_n hx hb d_Mo_cell_5 rfl (lv_at hl 1 rfl) ?_
  refine lv_if_lt (tgt := 46) hx hb d_Mo_cell_6 rfl (fun hc6 => ?_) (fun hc6 => ?_)
  · skip
    have hk := hk.1 hc6
    have hl := lv_sub (l' := [(0, .ref mo), (1, .int a1)]) hl [0, 1] rfl
    have hR : m_cell x a1 = k_cell_46 (nm_f x 0 0) a1 := by rw [m_cell]; rw [if_pos hc6]
    exact nm_W2 hR (J46 (nm_f x 0 0) a1 ls _ _ hk hl hP hD hS)
  · skip
    have hk := hk.2 hc6
    refine lv_iload_n hx hb d_Mo_cell_9 rfl (lv_at hl 1 rfl) ?_
    refine lv_sipush (v := 200) hx hb d_Mo_cell_10 (by decide) ?_
    refine lv_icmp_ge (tgt := 46) hx hb d_Mo_cell_13 rfl (fun hc13 => ?_) (fun hc13 => ?_)
    · skip
      have hk := hk.1 hc13
      have hl := lv_sub (l' := [(0, .ref mo), (1, .int a1)]) hl [0, 1] rfl
      have hR : m_cell x a1 = k_cell_46 (nm_f x 0 0) a1 := by rw [m_cell]; rw [if_neg hc6]; rw [if_pos hc13]
      exact nm_W2 hR (J46 (nm_f x 0 0) a1 ls _ _ hk hl hP hD hS)
    · skip
      have hk := hk.2 hc13
      refine lv_iload_n hx hb d_Mo_cell_16 rfl (lv_at hl 1 rfl) ?_
      refine lv_aload_n hx hb d_Mo_cell_17 rfl (lv_at hl 0 rfl) ?_
      refine nm_get hx hb hg hown hK hP 37 (by decide) (by decide) (hg _ mw_927) d_Mo_cell_18 ?_
      refine nb_top (x.1 37) rfl ?_
      refine lv_icmp_le (tgt := 42) hx hb d_Mo_cell_21 rfl (fun hc21 => ?_) (fun hc21 => ?_)
      · skip
        have hk := hk.1 hc21
        have hl := lv_sub (l' := [(0, .ref mo), (1, .int a1)]) hl [0, 1] rfl
        have hR : m_cell x a1 = k_cell_42 (nm_f x 0 0) a1 := by rw [m_cell]; rw [if_neg hc6]; rw [if_neg hc13]; rw [if_pos hc21]
        exact nm_W2 hR (J42 (nm_f x 0 0) a1 ls _ _ hk hl hP hD hS)
      · skip
        have hk := hk.2 hc21
        refine lv_iload_n hx hb d_Mo_cell_24 rfl (lv_at hl 1 rfl) ?_
        refine lv_aload_n hx hb d_Mo_cell_25 rfl (lv_at hl 0 rfl) ?_
        refine nm_get hx hb hg hown hK hP 36 (by decide) (by decide) (hg _ mw_926) d_Mo_cell_26 ?_
        refine nb_top (x.1 36) rfl ?_
        refine lv_icmp_lt (tgt := 46) hx hb d_Mo_cell_29 rfl (fun hc29 => ?_) (fun hc29 => ?_)
        · skip
          have hk := hk.1 hc29
          have hl := lv_sub (l' := [(0, .ref mo), (1, .int a1)]) hl [0, 1] rfl
          have hR : m_cell x a1 = k_cell_46 (nm_f x 0 0) a1 := by rw [m_cell]; rw [if_neg hc6]; rw [if_neg hc13]; rw [if_neg hc21]; rw [if_pos hc29]
          exact nm_W2 hR (J46 (nm_f x 0 0) a1 ls _ _ hk hl hP hD hS)
        · skip
          have hk := hk.2 hc29
          refine lv_iload_n hx hb d_Mo_cell_32 rfl (lv_at hl 1 rfl) ?_
          refine lv_aload_n hx hb d_Mo_cell_33 rfl (lv_at hl 0 rfl) ?_
          refine nm_get hx hb hg hown hK hP 36 (by decide) (by decide) (hg _ mw_926) d_Mo_cell_34 ?_
          refine nb_top (x.1 36) rfl ?_
          refine lv_iconst (v := 3) hx hb d_Mo_cell_37 (by decide) ?_
          refine lv_iadd hx hb d_Mo_cell_38 ?_
          refine lv_icmp_ge (tgt := 46) hx hb d_Mo_cell_39 rfl (fun hc39 => ?_) (fun hc39 => ?_)
          · skip
            have hk := hk.1 hc39
            have hl := lv_sub (l' := [(0, .ref mo), (1, .int a1)]) hl [0, 1] rfl
            have hR : m_cell x a1 = k_cell_46 (nm_f x 0 0) a1 := by rw [m_cell]; rw [if_neg hc6]; rw [if_neg hc13]; rw [if_neg hc21]; rw [if_neg hc29]; rw [if_pos hc39]
            exact nm_W2 hR (J46 (nm_f x 0 0) a1 ls _ _ hk hl hP hD hS)
          · skip
            have hk := hk.2 hc39
            have hl := lv_sub (l' := [(0, .ref mo), (1, .int a1)]) hl [0, 1] rfl
            have hR : m_cell x a1 = k_cell_42 (nm_f x 0 0) a1 := by rw [m_cell]; rw [if_neg hc6]; rw [if_neg hc13]; rw [if_neg hc21]; rw [if_neg hc29]; rw [if_neg hc39]
            exact nm_W2 hR (J42 (nm_f x 0 0) a1 ls _ _ hk hl hP hD hS)

theorem d_Mo_written_0 : decode b_Mo_written 0 = .ok (.aload_n 0, 1) := by decide +kernel
theorem d_Mo_written_1 : decode b_Mo_written 1 = .ok (.iconst 0, 1) := by decide +kernel
theorem d_Mo_written_2 : decode b_Mo_written 2 = .ok (.putfield 72, 3) := by decide +kernel
theorem d_Mo_written_5 : decode b_Mo_written 5 = .ok (.iload_n 1, 1) := by decide +kernel
theorem d_Mo_written_6 : decode b_Mo_written 6 = .ok (.ifCond .lt 18, 3) := by decide +kernel
theorem d_Mo_written_9 : decode b_Mo_written 9 = .ok (.iload_n 1, 1) := by decide +kernel
theorem d_Mo_written_10 : decode b_Mo_written 10 = .ok (.bipush 8, 2) := by decide +kernel
theorem d_Mo_written_12 : decode b_Mo_written 12 = .ok (.if_icmp .ge 12, 3) := by decide +kernel
theorem d_Mo_written_15 : decode b_Mo_written 15 = .ok (.aload_n 0, 1) := by decide +kernel
theorem d_Mo_written_16 : decode b_Mo_written 16 = .ok (.getfield 69, 3) := by decide +kernel
theorem d_Mo_written_19 : decode b_Mo_written 19 = .ok (.iload_n 1, 1) := by decide +kernel
theorem d_Mo_written_20 : decode b_Mo_written 20 = .ok (.iaload, 1) := by decide +kernel
theorem d_Mo_written_21 : decode b_Mo_written 21 = .ok (.goto 4, 3) := by decide +kernel
theorem d_Mo_written_24 : decode b_Mo_written 24 = .ok (.iconst 0, 1) := by decide +kernel
theorem d_Mo_written_25 : decode b_Mo_written 25 = .ok (.ireturn, 1) := by decide +kernel

def k_written_24 (x : nM)  : nM × Int32 := (x, 0)
def p_written_24 (x : nM)  : Prop := True
def m_written (x : nM) (a1 : Int32) : nM × Int32 := (if a1 < 0 then k_written_24 (nm_f x 0 0) else (if 8 ≤ a1 then k_written_24 (nm_f x 0 0) else (nm_f x 0 0, nm_g x 41 a1)))
def o_written (x : nM) (a1 : Int32) : Prop := ((a1 < 0 → p_written_24 (nm_f x 0 0)) ∧ (¬ (a1 < 0) → ((8 ≤ a1 → p_written_24 (nm_f x 0 0)) ∧ (¬ (8 ≤ a1) → vp_in a1 8 ∧ True))))
set_option maxHeartbeats 4000000 in
set_option maxRecDepth 100000 in
theorem t_written (l : Launch) (G : nn_G) (sz : Nat) (mo : Nat) (ad : Nat → Nat) (x : nM) (a1 : Int32) (hk : o_written x a1) : Met l y_Mo_written w_Mo_written ({ frames := 0, cells := 0, slots := 0, locals := 0 }) (nn_P G [.ref mo, .int a1] (nm_W G mo ad x) sz) (nm_Qi G mo ad (m_written x a1) (va_A (nm_W G mo ad x) sz)) 0 0 (va_A (nm_W G mo ad x) sz) := by
  refine Met.ofW (cc := b_Mo_written) (maxL := 2) (ret := some .int) (by decide) rfl ?_
  intro p e s m args below meth c s₁ B hml hv
  obtain ⟨rfl, hsz, hP, hK, hD0, hN⟩ := hv
  have hx := B.exec
  have hb := B.bytes
  have hr := B.returns
  have hts := atoms_spec (ws := w_Mo_written) B.pre
  have hg : ∀ w ∈ nn_gw, w.before _ s = true := fun w h => hts w (List.mem_cons_of_mem _ h)
  have hown : s.vm.findClass R_Mo = some m.cls := findClass_of_methodNamed B.named
  subst hsz
  have hD := hD0.self (sz := s.heap.size)
  generalize hAe : va_A (nm_W G mo ad x) s.heap.size = A at hD ⊢
  have hA : ∀ q : Nat, s.heap.size ≤ q → A q := fun q h => by rw [← hAe]; exact Or.inr h
  clear hAe
  have hS : va_S A s.heap s.heap [] := va_S.rf
  have hP : va_P G.1 nn_cls (nm_W G mo ad x) s.heap := hP
  have hl := lv_entry ([.ref mo, .int a1]) (n := 2) (Nat.le_of_ble_eq_true rfl)
  rw [lg_entry_eq]
  generalize (lg_sl ([.ref mo, .int a1]) ++ List.replicate (2 - (lg_sl ([.ref mo, .int a1])).length) Slot.unset).toArray = ls at hl ⊢
  have hl : lv_has ls 2 [(0, .ref mo), (1, .int a1)] := hl
  have J24 : ∀ (x : nM)  (ls : Array Slot) (H : Heap) (locs : List Loc), p_written_24 x → lv_has ls 2 [] → va_P G.1 nn_cls (nm_W G mo ad x) H → va_D A (nm_W G mo ad x) → va_S A s.heap H locs → W p l e (headSpec w_Mo_written ({ frames := 0, cells := 0, slots := 0, locals := 0 })).room s m [.ref mo, .int a1].toArray below meth c H locs 0 0 (MQ below (nm_Qi G mo ad (k_written_24 x) A) [.ref mo, .int a1].toArray s 0 0 A) (F0 m 24 ls []) := by
    intro x  ls H locs hk hl hP hD hS
    unfold p_written_24 at hk
    refine lv_iconst (v := 0) hx hb d_Mo_written_24 (by decide) ?_
    have hR : k_written_24 x = (x, 0) := by rw [k_written_24]
    refine nm_W2 hR ?_
    exact W.iret (v := 0) hx hb hr (fun t ht hW => ⟨⟨0, (), rfl, rfl, ⟨by rw [ht]; exact hP, hD⟩⟩, hS.F ht⟩) hS.2.2 d_Mo_written_25
  unfold o_written at hk
  refine lv_aload_n hx hb d_Mo_written_0 rfl (lv_at hl 0 rfl) ?_
  refine lv_iconst (v := 0) hx hb d_Mo_written_1 (by decide) ?_
  refine nm_put hx hb hg hown hK hP hD hS 0 (by decide) (by decide) (by decide) (hg _ mw_890) d_Mo_written_2 (fun H locs hP hD hS => ?_)
  refine lv_iload_n hx hb d_Mo_written_5 rfl (lv_at hl 1 rfl) ?_
  refine lv_if_lt (tgt := 24) hx hb d_Mo_written_6 rfl (fun hc6 => ?_) (fun hc6 => ?_)
  · skip
    have hk := hk.1 hc6
    have hl := lv_sub (l' := []) hl [] rfl
    have hR : m_written x a1 = k_written_24 (nm_f x 0 0) := by rw [m_written]; rw [if_pos hc6]
    exact nm_W2 hR (J24 (nm_f x 0 0) ls _ _ hk hl hP hD hS)
  · skip
    have hk := hk.2 hc6
    refine lv_iload_n hx hb d_Mo_written_9 rfl (lv_at hl 1 rfl) ?_
    refine lv_bipush (v := 8) hx hb d_Mo_written_10 (by decide) ?_
    refine lv_icmp_ge (tgt := 24) hx hb d_Mo_written_12 rfl (fun hc12 => ?_) (fun hc12 => ?_)
    · skip
      have hk := hk.1 hc12
      have hl := lv_sub (l' := []) hl [] rfl
      have hR : m_written x a1 = k_written_24 (nm_f x 0 0) := by rw [m_written]; rw [if_neg hc6]; rw [if_pos hc12]
      exact nm_W2 hR (J24 (nm_f x 0 0) ls _ _ hk hl hP hD hS)
    · skip
      have hk := hk.2 hc12
      refine lv_aload_n hx hb d_Mo_written_15 rfl (lv_at hl 0 rfl) ?_
      refine nm_getA hx hb hg hown hK hP 41 (by decide) (by decide) (hg _ mw_931) d_Mo_written_16 ?_
      refine lv_iload_n hx hb d_Mo_written_19 rfl (lv_at hl 1 rfl) ?_
      obtain ⟨hi, hk⟩ := hk
      refine nm_ld hx hb hK hP 41 16 rfl (by decide) hi d_Mo_written_20 ?_
      refine nb_top (nm_g x 41 a1) rfl ?_
      refine lv_goto (tgt := 25) hx hb d_Mo_written_21 rfl ?_
      have hR : m_written x a1 = (nm_f x 0 0, nm_g x 41 a1) := by rw [m_written]; rw [if_neg hc6]; rw [if_neg hc12]
      refine nm_W2 hR ?_
      exact W.iret (v := nm_g x 41 a1) hx hb hr (fun t ht hW => ⟨⟨nm_g x 41 a1, (), rfl, rfl, ⟨by rw [ht]; exact hP, hD⟩⟩, hS.F ht⟩) hS.2.2 d_Mo_written_25

theorem d_Mo_variable_0 : decode b_Mo_variable 0 = .ok (.aload_n 0, 1) := by decide +kernel
theorem d_Mo_variable_1 : decode b_Mo_variable 1 = .ok (.iconst 0, 1) := by decide +kernel
theorem d_Mo_variable_2 : decode b_Mo_variable 2 = .ok (.putfield 72, 3) := by decide +kernel
theorem d_Mo_variable_5 : decode b_Mo_variable 5 = .ok (.aload_n 0, 1) := by decide +kernel
theorem d_Mo_variable_6 : decode b_Mo_variable 6 = .ok (.getfield 239, 3) := by decide +kernel
theorem d_Mo_variable_9 : decode b_Mo_variable 9 = .ok (.iconst 1, 1) := by decide +kernel
theorem d_Mo_variable_10 : decode b_Mo_variable 10 = .ok (.if_icmp .ne 7, 3) := by decide +kernel
theorem d_Mo_variable_13 : decode b_Mo_variable 13 = .ok (.iload_n 1, 1) := by decide +kernel
theorem d_Mo_variable_14 : decode b_Mo_variable 14 = .ok (.ifCond .ge 5, 3) := by decide +kernel
theorem d_Mo_variable_17 : decode b_Mo_variable 17 = .ok (.iconst 0, 1) := by decide +kernel
theorem d_Mo_variable_18 : decode b_Mo_variable 18 = .ok (.ireturn, 1) := by decide +kernel
theorem d_Mo_variable_19 : decode b_Mo_variable 19 = .ok (.aload_n 0, 1) := by decide +kernel
theorem d_Mo_variable_20 : decode b_Mo_variable 20 = .ok (.getfield 245, 3) := by decide +kernel
theorem d_Mo_variable_23 : decode b_Mo_variable 23 = .ok (.istore_n 3, 1) := by decide +kernel
theorem d_Mo_variable_24 : decode b_Mo_variable 24 = .ok (.iconst 0, 1) := by decide +kernel
theorem d_Mo_variable_25 : decode b_Mo_variable 25 = .ok (.istore 4, 2) := by decide +kernel
theorem d_Mo_variable_27 : decode b_Mo_variable 27 = .ok (.iload 4, 2) := by decide +kernel
theorem d_Mo_variable_29 : decode b_Mo_variable 29 = .ok (.iload_n 1, 1) := by decide +kernel
theorem d_Mo_variable_30 : decode b_Mo_variable 30 = .ok (.if_icmp .ge 28, 3) := by decide +kernel
theorem d_Mo_variable_33 : decode b_Mo_variable 33 = .ok (.iload 4, 2) := by decide +kernel
theorem d_Mo_variable_35 : decode b_Mo_variable 35 = .ok (.sipush 200, 3) := by decide +kernel
theorem d_Mo_variable_38 : decode b_Mo_variable 38 = .ok (.if_icmp .ge 20, 3) := by decide +kernel
theorem d_Mo_variable_41 : decode b_Mo_variable 41 = .ok (.iload_n 3, 1) := by decide +kernel
theorem d_Mo_variable_42 : decode b_Mo_variable 42 = .ok (.ifCond .le 16, 3) := by decide +kernel
theorem d_Mo_variable_45 : decode b_Mo_variable 45 = .ok (.aload_n 0, 1) := by decide +kernel
theorem d_Mo_variable_46 : decode b_Mo_variable 46 = .ok (.getfield 66, 3) := by decide +kernel
theorem d_Mo_variable_49 : decode b_Mo_variable 49 = .ok (.iload_n 3, 1) := by decide +kernel
theorem d_Mo_variable_50 : decode b_Mo_variable 50 = .ok (.iaload, 1) := by decide +kernel
theorem d_Mo_variable_51 : decode b_Mo_variable 51 = .ok (.istore_n 3, 1) := by decide +kernel
theorem d_Mo_variable_52 : decode b_Mo_variable 52 = .ok (.iinc 4 1, 3) := by decide +kernel
theorem d_Mo_variable_55 : decode b_Mo_variable 55 = .ok (.goto (-28), 3) := by decide +kernel
theorem d_Mo_variable_58 : decode b_Mo_variable 58 = .ok (.iload_n 3, 1) := by decide +kernel
theorem d_Mo_variable_59 : decode b_Mo_variable 59 = .ok (.i2l, 1) := by decide +kernel
theorem d_Mo_variable_60 : decode b_Mo_variable 60 = .ok (.iload_n 2, 1) := by decide +kernel
theorem d_Mo_variable_61 : decode b_Mo_variable 61 = .ok (.i2l, 1) := by decide +kernel
theorem d_Mo_variable_62 : decode b_Mo_variable 62 = .ok (.ladd, 1) := by decide +kernel
theorem d_Mo_variable_63 : decode b_Mo_variable 63 = .ok (.lstore 5, 2) := by decide +kernel
theorem d_Mo_variable_65 : decode b_Mo_variable 65 = .ok (.iload 4, 2) := by decide +kernel
theorem d_Mo_variable_67 : decode b_Mo_variable 67 = .ok (.iload_n 1, 1) := by decide +kernel
theorem d_Mo_variable_68 : decode b_Mo_variable 68 = .ok (.if_icmp .lt 21, 3) := by decide +kernel
theorem d_Mo_variable_71 : decode b_Mo_variable 71 = .ok (.lload 5, 2) := by decide +kernel
theorem d_Mo_variable_73 : decode b_Mo_variable 73 = .ok (.lconst 0, 1) := by decide +kernel
theorem d_Mo_variable_74 : decode b_Mo_variable 74 = .ok (.lcmp, 1) := by decide +kernel
theorem d_Mo_variable_75 : decode b_Mo_variable 75 = .ok (.ifCond .lt 14, 3) := by decide +kernel
theorem d_Mo_variable_78 : decode b_Mo_variable 78 = .ok (.lload 5, 2) := by decide +kernel
theorem d_Mo_variable_80 : decode b_Mo_variable 80 = .ok (.aload_n 0, 1) := by decide +kernel
theorem d_Mo_variable_81 : decode b_Mo_variable 81 = .ok (.getfield 63, 3) := by decide +kernel
theorem d_Mo_variable_84 : decode b_Mo_variable 84 = .ok (.i2l, 1) := by decide +kernel
theorem d_Mo_variable_85 : decode b_Mo_variable 85 = .ok (.lcmp, 1) := by decide +kernel
theorem d_Mo_variable_86 : decode b_Mo_variable 86 = .ok (.ifCond .le 7, 3) := by decide +kernel
theorem d_Mo_variable_89 : decode b_Mo_variable 89 = .ok (.iconst 0, 1) := by decide +kernel
theorem d_Mo_variable_90 : decode b_Mo_variable 90 = .ok (.goto 11, 3) := by decide +kernel
theorem d_Mo_variable_93 : decode b_Mo_variable 93 = .ok (.aload_n 0, 1) := by decide +kernel
theorem d_Mo_variable_94 : decode b_Mo_variable 94 = .ok (.getfield 66, 3) := by decide +kernel
theorem d_Mo_variable_97 : decode b_Mo_variable 97 = .ok (.lload 5, 2) := by decide +kernel
theorem d_Mo_variable_99 : decode b_Mo_variable 99 = .ok (.l2i, 1) := by decide +kernel
theorem d_Mo_variable_100 : decode b_Mo_variable 100 = .ok (.iaload, 1) := by decide +kernel
theorem d_Mo_variable_101 : decode b_Mo_variable 101 = .ok (.ireturn, 1) := by decide +kernel

def k_variable_89 (x : nM)  : nM × Int32 := (x, 0)
def p_variable_89 (x : nM)  : Prop := True
def k_variable_58 (x : nM) (v1 : Int32) (v2 : Int32) (v3 : Int32) (v4 : Int32) : nM × Int32 := (if v4 < v1 then k_variable_89 x else (if lg_cmp (v3.toInt64 + v2.toInt64) 0 < 0 then k_variable_89 x else (if lg_cmp (v3.toInt64 + v2.toInt64) ((x.1 37).toInt64) ≤ 0 then (x, nm_g x 40 ((v3.toInt64 + v2.toInt64).toInt32)) else k_variable_89 x)))
def p_variable_58 (x : nM) (v1 : Int32) (v2 : Int32) (v3 : Int32) (v4 : Int32) : Prop := ((v4 < v1 → p_variable_89 x) ∧ (¬ (v4 < v1) → ((lg_cmp (v3.toInt64 + v2.toInt64) 0 < 0 → p_variable_89 x) ∧ (¬ (lg_cmp (v3.toInt64 + v2.toInt64) 0 < 0) → ((lg_cmp (v3.toInt64 + v2.toInt64) ((x.1 37).toInt64) ≤ 0 → vp_in ((v3.toInt64 + v2.toInt64).toInt32) 200 ∧ True) ∧ (¬ (lg_cmp (v3.toInt64 + v2.toInt64) ((x.1 37).toInt64) ≤ 0) → p_variable_89 x))))))
def k_variable_27 : Nat → nM → Int32 → Int32 → Int32 → Int32 → nM × Int32
  | 0, x, v1, v2, v3, v4 => (x, 0)
  | n + 1, x, v1, v2, v3, v4 => (if v1 ≤ v4 then k_variable_58 x v1 v2 v3 v4 else (if 200 ≤ v4 then k_variable_58 x v1 v2 v3 v4 else (if v3 ≤ 0 then k_variable_58 x v1 v2 v3 v4 else k_variable_27 n x v1 v2 (nm_g x 40 v3) (v4 + 1))))
def p_variable_27 : Nat → nM → Int32 → Int32 → Int32 → Int32 → Prop
  | 0, _, _, _, _, _ => False
  | n + 1, x, v1, v2, v3, v4 => ((v1 ≤ v4 → p_variable_58 x v1 v2 v3 v4) ∧ (¬ (v1 ≤ v4) → ((200 ≤ v4 → p_variable_58 x v1 v2 v3 v4) ∧ (¬ (200 ≤ v4) → ((v3 ≤ 0 → p_variable_58 x v1 v2 v3 v4) ∧ (¬ (v3 ≤ 0) → vp_in v3 200 ∧ p_variable_27 n x v1 v2 (nm_g x 40 v3) (v4 + 1)))))))
def k_variable_17 (x : nM)  : nM × Int32 := (x, 0)
def p_variable_17 (x : nM)  : Prop := True
def m_variable (x : nM) (a1 : Int32) (a2 : Int32) : nM × Int32 := (if x.1 34 = 1 then (if 0 ≤ a1 then k_variable_27 300 (nm_f x 0 0) a1 a2 (x.1 36) 0 else k_variable_17 (nm_f x 0 0)) else k_variable_17 (nm_f x 0 0))
def o_variable (x : nM) (a1 : Int32) (a2 : Int32) : Prop := ((x.1 34 = 1 → ((0 ≤ a1 → p_variable_27 300 (nm_f x 0 0) a1 a2 (x.1 36) 0) ∧ (¬ (0 ≤ a1) → p_variable_17 (nm_f x 0 0)))) ∧ (¬ (x.1 34 = 1) → p_variable_17 (nm_f x 0 0)))
set_option maxHeartbeats 4000000 in
set_option maxRecDepth 100000 in
theorem t_variable (l : Launch) (G : nn_G) (sz : Nat) (mo : Nat) (ad : Nat → Nat) (x : nM) (a1 : Int32) (a2 : Int32) (hk : o_variable x a1 a2) : Met l y_Mo_variable w_Mo_variable ({ frames := 0, cells := 0, slots := 0, locals := 0 }) (nn_P G [.ref mo, .int a1, .int a2] (nm_W G mo ad x) sz) (nm_Qi G mo ad (m_variable x a1 a2) (va_A (nm_W G mo ad x) sz)) 0 0 (va_A (nm_W G mo ad x) sz) := by
  refine Met.ofW (cc := b_Mo_variable) (maxL := 7) (ret := some .int) (by decide) rfl ?_
  intro p e s m args below meth c s₁ B hml hv
  obtain ⟨rfl, hsz, hP, hK, hD0, hN⟩ := hv
  have hx := B.exec
  have hb := B.bytes
  have hr := B.returns
  have hts := atoms_spec (ws := w_Mo_variable) B.pre
  have hg : ∀ w ∈ nn_gw, w.before _ s = true := fun w h => hts w (List.mem_cons_of_mem _ h)
  have hown : s.vm.findClass R_Mo = some m.cls := findClass_of_methodNamed B.named
  subst hsz
  have hD := hD0.self (sz := s.heap.size)
  generalize hAe : va_A (nm_W G mo ad x) s.heap.size = A at hD ⊢
  have hA : ∀ q : Nat, s.heap.size ≤ q → A q := fun q h => by rw [← hAe]; exact Or.inr h
  clear hAe
  have hS : va_S A s.heap s.heap [] := va_S.rf
  have hP : va_P G.1 nn_cls (nm_W G mo ad x) s.heap := hP
  have hl := lv_entry ([.ref mo, .int a1, .int a2]) (n := 7) (Nat.le_of_ble_eq_true rfl)
  rw [lg_entry_eq]
  generalize (lg_sl ([.ref mo, .int a1, .int a2]) ++ List.replicate (7 - (lg_sl ([.ref mo, .int a1, .int a2])).length) Slot.unset).toArray = ls at hl ⊢
  have hl : lv_has ls 7 [(0, .ref mo), (1, .int a1), (2, .int a2)] := hl
  have J89 : ∀ (x : nM)  (ls : Array Slot) (H : Heap) (locs : List Loc), p_variable_89 x → lv_has ls 7 [] → va_P G.1 nn_cls (nm_W G mo ad x) H → va_D A (nm_W G mo ad x) → va_S A s.heap H locs → W p l e (headSpec w_Mo_variable ({ frames := 0, cells := 0, slots := 0, locals := 0 })).room s m [.ref mo, .int a1, .int a2].toArray below meth c H locs 0 0 (MQ below (nm_Qi G mo ad (k_variable_89 x) A) [.ref mo, .int a1, .int a2].toArray s 0 0 A) (F0 m 89 ls []) := by
    intro x  ls H locs hk hl hP hD hS
    unfold p_variable_89 at hk
    refine lv_iconst (v := 0) hx hb d_Mo_variable_89 (by decide) ?_
    refine lv_goto (tgt := 101) hx hb d_Mo_variable_90 rfl ?_
    have hR : k_variable_89 x = (x, 0) := by rw [k_variable_89]
    refine nm_W2 hR ?_
    exact W.iret (v := 0) hx hb hr (fun t ht hW => ⟨⟨0, (), rfl, rfl, ⟨by rw [ht]; exact hP, hD⟩⟩, hS.F ht⟩) hS.2.2 d_Mo_variable_101
  have J58 : ∀ (x : nM) (v1 : Int32) (v2 : Int32) (v3 : Int32) (v4 : Int32) (ls : Array Slot) (H : Heap) (locs : List Loc), p_variable_58 x v1 v2 v3 v4 → lv_has ls 7 [(0, .ref mo), (1, .int v1), (2, .int v2), (3, .int v3), (4, .int v4)] → va_P G.1 nn_cls (nm_W G mo ad x) H → va_D A (nm_W G mo ad x) → va_S A s.heap H locs → W p l e (headSpec w_Mo_variable ({ frames := 0, cells := 0, slots := 0, locals := 0 })).room s m [.ref mo, .int a1, .int a2].toArray below meth c H locs 0 0 (MQ below (nm_Qi G mo ad (k_variable_58 x v1 v2 v3 v4) A) [.ref mo, .int a1, .int a2].toArray s 0 0 A) (F0 m 58 ls []) := by
    intro x v1 v2 v3 v4 ls H locs hk hl hP hD hS
    unfold p_variable_58 at hk
    refine lv_iload_n hx hb d_Mo_variable_58 rfl (lv_at hl 3 rfl) ?_
    refine lv_i2l (v := v3.toInt64) hx hb d_Mo_variable_59 (rfl) ?_
    refine lv_iload_n hx hb d_Mo_variable_60 rfl (lv_at hl 2 rfl) ?_
    refine lv_i2l (v := v2.toInt64) hx hb d_Mo_variable_61 (rfl) ?_
    refine lv_ladd hx hb d_Mo_variable_62 ?_
    refine lv_lstore (lv' := [(5, .long (v3.toInt64 + v2.toInt64)), (0, .ref mo), (1, .int v1), (2, .int v2), (3, .int v3), (4, .int v4)]) hx hb d_Mo_variable_63 hl (by decide) rfl (fun ls hl => ?_)
    refine lv_iload hx hb d_Mo_variable_65 (lv_at hl 5 rfl) ?_
    refine lv_iload_n hx hb d_Mo_variable_67 rfl (lv_at hl 2 rfl) ?_
    refine lv_icmp_lt (tgt := 89) hx hb d_Mo_variable_68 rfl (fun hc68 => ?_) (fun hc68 => ?_)
    · skip
      have hk := hk.1 hc68
      have hl := lv_sub (l' := []) hl [] rfl
      have hR : k_variable_58 x v1 v2 v3 v4 = k_variable_89 x := by rw [k_variable_58]; rw [if_pos hc68]
      exact nm_W2 hR (J89 x ls _ _ hk hl hP hD hS)
    · skip
      have hk := hk.2 hc68
      refine lv_lload hx hb d_Mo_variable_71 (lv_at hl 0 rfl) ?_
      refine lv_lconst (v := 0) hx hb d_Mo_variable_73 (by decide) ?_
      refine W.lcmp hx hb d_Mo_variable_74 ?_
      refine lv_if_lt (tgt := 89) hx hb d_Mo_variable_75 rfl (fun hc75 => ?_) (fun hc75 => ?_)
      · skip
        have hk := hk.1 hc75
        have hl := lv_sub (l' := []) hl [] rfl
        have hR : k_variable_58 x v1 v2 v3 v4 = k_variable_89 x := by rw [k_variable_58]; rw [if_neg hc68]; rw [if_pos hc75]
        exact nm_W2 hR (J89 x ls _ _ hk hl hP hD hS)
      · skip
        have hk := hk.2 hc75
        refine lv_lload hx hb d_Mo_variable_78 (lv_at hl 0 rfl) ?_
        refine lv_aload_n hx hb d_Mo_variable_80 rfl (lv_at hl 1 rfl) ?_
        refine nm_get hx hb hg hown hK hP 37 (by decide) (by decide) (hg _ mw_927) d_Mo_variable_81 ?_
        refine lv_i2l (v := (x.1 37).toInt64) hx hb d_Mo_variable_84 (rfl) ?_
        refine W.lcmp hx hb d_Mo_variable_85 ?_
        refine lv_if_le (tgt := 93) hx hb d_Mo_variable_86 rfl (fun hc86 => ?_) (fun hc86 => ?_)
        · skip
          have hk := hk.1 hc86
          refine lv_aload_n hx hb d_Mo_variable_93 rfl (lv_at hl 1 rfl) ?_
          refine nm_getA hx hb hg hown hK hP 40 (by decide) (by decide) (hg _ mw_930) d_Mo_variable_94 ?_
          refine lv_lload hx hb d_Mo_variable_97 (lv_at hl 0 rfl) ?_
          refine lv_l2i (v := (v3.toInt64 + v2.toInt64).toInt32) hx hb d_Mo_variable_99 rfl ?_
          obtain ⟨hi, hk⟩ := hk
          refine nm_ld hx hb hK hP 40 15 rfl (by decide) hi d_Mo_variable_100 ?_
          have hR : k_variable_58 x v1 v2 v3 v4 = (x, nm_g x 40 ((v3.toInt64 + v2.toInt64).toInt32)) := by rw [k_variable_58]; rw [if_neg hc68]; rw [if_neg hc75]; rw [if_pos hc86]
          refine nm_W2 hR ?_
          exact W.iret (v := nm_g x 40 ((v3.toInt64 + v2.toInt64).toInt32)) hx hb hr (fun t ht hW => ⟨⟨nm_g x 40 ((v3.toInt64 + v2.toInt64).toInt32), (), rfl, rfl, ⟨by rw [ht]; exact hP, hD⟩⟩, hS.F ht⟩) hS.2.2 d_Mo_variable_101
        · skip
          have hk := hk.2 hc86
          have hl := lv_sub (l' := []) hl [] rfl
          have hR : k_variable_58 x v1 v2 v3 v4 = k_variable_89 x := by rw [k_variable_58]; rw [if_neg hc68]; rw [if_neg hc75]; rw [if_neg hc86]
          exact nm_W2 hR (J89 x ls _ _ hk hl hP hD hS)
  have J27 : ∀ (n : Nat) (x : nM) (v1 : Int32) (v2 : Int32) (v3 : Int32) (v4 : Int32) (ls : Array Slot) (H : Heap) (locs : List Loc), p_variable_27 n x v1 v2 v3 v4 → lv_has ls 7 [(0, .ref mo), (1, .int v1), (2, .int v2), (3, .int v3), (4, .int v4)] → va_P G.1 nn_cls (nm_W G mo ad x) H → va_D A (nm_W G mo ad x) → va_S A s.heap H locs → W p l e (headSpec w_Mo_variable ({ frames := 0, cells := 0, slots := 0, locals := 0 })).room s m [.ref mo, .int a1, .int a2].toArray below meth c H locs 0 0 (MQ below (nm_Qi G mo ad (k_variable_27 n x v1 v2 v3 v4) A) [.ref mo, .int a1, .int a2].toArray s 0 0 A) (F0 m 27 ls []) := by
    intro n
    induction n with
    | zero =>
      intro x v1 v2 v3 v4 ls H locs hk
      exact (show False from hk).elim
    | succ n ih =>
      intro x v1 v2 v3 v4 ls H locs hk hl hP hD hS
      unfold p_variable_27 at hk
      refine lv_iload hx hb d_Mo_variable_27 (lv_at hl 4 rfl) ?_
      refine lv_iload_n hx hb d_Mo_variable_29 rfl (lv_at hl 1 rfl) ?_
      refine lv_icmp_ge (tgt := 58) hx hb d_Mo_variable_30 rfl (fun hc30 => ?_) (fun hc30 => ?_)
      · skip
        have hk := hk.1 hc30
        have hl := lv_sub (l' := [(0, .ref mo), (1, .int v1), (2, .int v2), (3, .int v3), (4, .int v4)]) hl [0, 1, 2, 3, 4] rfl
        have hR : k_variable_27 (n + 1) x v1 v2 v3 v4 = k_variable_58 x v1 v2 v3 v4 := by rw [k_variable_27]; rw [if_pos hc30]
        exact nm_W2 hR (J58 x v1 v2 v3 v4 ls _ _ hk hl hP hD hS)
      · skip
        have hk := hk.2 hc30
        refine lv_iload hx hb d_Mo_variable_33 (lv_at hl 4 rfl) ?_
        refine lv_sipush (v := 200) hx hb d_Mo_variable_35 (by decide) ?_
        refine lv_icmp_ge (tgt := 58) hx hb d_Mo_variable_38 rfl (fun hc38 => ?_) (fun hc38 => ?_)
        · skip
          have hk := hk.1 hc38
          have hl := lv_sub (l' := [(0, .ref mo), (1, .int v1), (2, .int v2), (3, .int v3), (4, .int v4)]) hl [0, 1, 2, 3, 4] rfl
          have hR : k_variable_27 (n + 1) x v1 v2 v3 v4 = k_variable_58 x v1 v2 v3 v4 := by rw [k_variable_27]; rw [if_neg hc30]; rw [if_pos hc38]
          exact nm_W2 hR (J58 x v1 v2 v3 v4 ls _ _ hk hl hP hD hS)
        · skip
          have hk := hk.2 hc38
          refine lv_iload_n hx hb d_Mo_variable_41 rfl (lv_at hl 3 rfl) ?_
          refine lv_if_le (tgt := 58) hx hb d_Mo_variable_42 rfl (fun hc42 => ?_) (fun hc42 => ?_)
          · skip
            have hk := hk.1 hc42
            have hl := lv_sub (l' := [(0, .ref mo), (1, .int v1), (2, .int v2), (3, .int v3), (4, .int v4)]) hl [0, 1, 2, 3, 4] rfl
            have hR : k_variable_27 (n + 1) x v1 v2 v3 v4 = k_variable_58 x v1 v2 v3 v4 := by rw [k_variable_27]; rw [if_neg hc30]; rw [if_neg hc38]; rw [if_pos hc42]
            exact nm_W2 hR (J58 x v1 v2 v3 v4 ls _ _ hk hl hP hD hS)
          · skip
            have hk := hk.2 hc42
            refine lv_aload_n hx hb d_Mo_variable_45 rfl (lv_at hl 0 rfl) ?_
            refine nm_getA hx hb hg hown hK hP 40 (by decide) (by decide) (hg _ mw_930) d_Mo_variable_46 ?_
            refine lv_iload_n hx hb d_Mo_variable_49 rfl (lv_at hl 3 rfl) ?_
            obtain ⟨hi, hk⟩ := hk
            refine nm_ld hx hb hK hP 40 15 rfl (by decide) hi d_Mo_variable_50 ?_
            refine lv_istore_n (lv' := [(3, .int (nm_g x 40 v3)), (0, .ref mo), (1, .int v1), (2, .int v2), (4, .int v4)]) hx hb d_Mo_variable_51 rfl hl (by decide) rfl (fun ls hl => ?_)
            refine lv_iinc (k := 4) (v := v4 + 1) (lv' := [(4, .int (v4 + 1)), (3, .int (nm_g x 40 v3)), (0, .ref mo), (1, .int v1), (2, .int v2)]) hx hb d_Mo_variable_52 hl rfl (rfl) (by decide) rfl (fun ls hl => ?_)
            refine lv_goto (tgt := 27) hx hb d_Mo_variable_55 rfl ?_
            have hl := lv_sub (l' := [(0, .ref mo), (1, .int v1), (2, .int v2), (3, .int (nm_g x 40 v3)), (4, .int (v4 + 1))]) hl [2, 3, 4, 1, 0] rfl
            have hR : k_variable_27 (n + 1) x v1 v2 v3 v4 = k_variable_27 n x v1 v2 (nm_g x 40 v3) (v4 + 1) := by rw [k_variable_27]; rw [if_neg hc30]; rw [if_neg hc38]; rw [if_neg hc42]
            exact nm_W2 hR (ih x v1 v2 (nm_g x 40 v3) (v4 + 1) ls _ _ hk hl hP hD hS)
  have J17 : ∀ (x : nM)  (ls : Array Slot) (H : Heap) (locs : List Loc), p_variable_17 x → lv_has ls 7 [] → va_P G.1 nn_cls (nm_W G mo ad x) H → va_D A (nm_W G mo ad x) → va_S A s.heap H locs → W p l e (headSpec w_Mo_variable ({ frames := 0, cells := 0, slots := 0, locals := 0 })).room s m [.ref mo, .int a1, .int a2].toArray below meth c H locs 0 0 (MQ below (nm_Qi G mo ad (k_variable_17 x) A) [.ref mo, .int a1, .int a2].toArray s 0 0 A) (F0 m 17 ls []) := by
    intro x  ls H locs hk hl hP hD hS
    unfold p_variable_17 at hk
    refine lv_iconst (v := 0) hx hb d_Mo_variable_17 (by decide) ?_
    have hR : k_variable_17 x = (x, 0) := by rw [k_variable_17]
    refine nm_W2 hR ?_
    exact W.iret (v := 0) hx hb hr (fun t ht hW => ⟨⟨0, (), rfl, rfl, ⟨by rw [ht]; exact hP, hD⟩⟩, hS.F ht⟩) hS.2.2 d_Mo_variable_18
  unfold o_variable at hk
  refine lv_aload_n hx hb d_Mo_variable_0 rfl (lv_at hl 0 rfl) ?_
  refine lv_iconst (v := 0) hx hb d_Mo_variable_1 (by decide) ?_
  refine nm_put hx hb hg hown hK hP hD hS 0 (by decide) (by decide) (by decide) (hg _ mw_890) d_Mo_variable_2 (fun H locs hP hD hS => ?_)
  refine lv_aload_n hx hb d_Mo_variable_5 rfl (lv_at hl 0 rfl) ?_
  refine nm_get hx hb hg hown hK hP 34 (by decide) (by decide) (hg _ mw_924) d_Mo_variable_6 ?_
  refine nb_top (x.1 34) rfl ?_
  refine lv_iconst (v := 1) hx hb d_Mo_variable_9 (by decide) ?_
  refine lv_icmp_ne (tgt := 17) hx hb d_Mo_variable_10 rfl (fun hc10 => ?_) (fun hc10 => ?_)
  · skip
    have hk := hk.2 hc10
    have hl := lv_sub (l' := []) hl [] rfl
    have hR : m_variable x a1 a2 = k_variable_17 (nm_f x 0 0) := by rw [m_variable]; rw [if_neg hc10]
    exact nm_W2 hR (J17 (nm_f x 0 0) ls _ _ hk hl hP hD hS)
  · skip
    have hk := hk.1 hc10
    refine lv_iload_n hx hb d_Mo_variable_13 rfl (lv_at hl 1 rfl) ?_
    refine lv_if_ge (tgt := 19) hx hb d_Mo_variable_14 rfl (fun hc14 => ?_) (fun hc14 => ?_)
    · skip
      have hk := hk.1 hc14
      refine lv_aload_n hx hb d_Mo_variable_19 rfl (lv_at hl 0 rfl) ?_
      refine nm_get hx hb hg hown hK hP 36 (by decide) (by decide) (hg _ mw_926) d_Mo_variable_20 ?_
      refine nb_top (x.1 36) rfl ?_
      refine lv_istore_n (lv' := [(3, .int (x.1 36)), (0, .ref mo), (1, .int a1), (2, .int a2)]) hx hb d_Mo_variable_23 rfl hl (by decide) rfl (fun ls hl => ?_)
      refine lv_iconst (v := 0) hx hb d_Mo_variable_24 (by decide) ?_
      refine lv_istore (lv' := [(4, .int 0), (3, .int (x.1 36)), (0, .ref mo), (1, .int a1), (2, .int a2)]) hx hb d_Mo_variable_25 hl (by decide) rfl (fun ls hl => ?_)
      have hl := lv_sub (l' := [(0, .ref mo), (1, .int a1), (2, .int a2), (3, .int (x.1 36)), (4, .int 0)]) hl [2, 3, 4, 1, 0] rfl
      have hR : m_variable x a1 a2 = k_variable_27 300 (nm_f x 0 0) a1 a2 (x.1 36) 0 := by rw [m_variable]; rw [if_pos hc10]; rw [if_pos hc14]
      exact nm_W2 hR (J27 300 (nm_f x 0 0) a1 a2 (x.1 36) 0 ls _ _ hk hl hP hD hS)
    · skip
      have hk := hk.2 hc14
      have hl := lv_sub (l' := []) hl [] rfl
      have hR : m_variable x a1 a2 = k_variable_17 (nm_f x 0 0) := by rw [m_variable]; rw [if_pos hc10]; rw [if_neg hc14]
      exact nm_W2 hR (J17 (nm_f x 0 0) ls _ _ hk hl hP hD hS)
