/-! contracts (by wip/p1/gen.py) -/
theorem mw_891 : (.fieldLink R_Mo 75 R_Mo "typed" "I" : Cond) ∈ nn_gw := nn_at 891 (by decide +kernel) (by decide +kernel)
theorem mw_892 : (.fieldLink R_Mo 7 R_Mo "text" "[C" : Cond) ∈ nn_gw := nn_at 892 (by decide +kernel) (by decide +kernel)
theorem d_Mo_here_0 : decode b_Mo_here 0 = .ok (.iload_n 1, 1) := by decide +kernel
theorem d_Mo_here_1 : decode b_Mo_here 1 = .ok (.aload_n 0, 1) := by decide +kernel
theorem d_Mo_here_2 : decode b_Mo_here 2 = .ok (.getfield 75, 3) := by decide +kernel
theorem d_Mo_here_5 : decode b_Mo_here 5 = .ok (.if_icmp .ge 12, 3) := by decide +kernel
theorem d_Mo_here_8 : decode b_Mo_here 8 = .ok (.aload_n 0, 1) := by decide +kernel
theorem d_Mo_here_9 : decode b_Mo_here 9 = .ok (.getfield 7, 3) := by decide +kernel
theorem d_Mo_here_12 : decode b_Mo_here 12 = .ok (.iload_n 1, 1) := by decide +kernel
theorem d_Mo_here_13 : decode b_Mo_here 13 = .ok (.caload, 1) := by decide +kernel
theorem d_Mo_here_14 : decode b_Mo_here 14 = .ok (.goto 4, 3) := by decide +kernel
theorem d_Mo_here_17 : decode b_Mo_here 17 = .ok (.iconst 0, 1) := by decide +kernel
theorem d_Mo_here_18 : decode b_Mo_here 18 = .ok (.ireturn, 1) := by decide +kernel

def m_here (x : nM) (a1 : Int32) : Int32 := (if x.1 1 ≤ a1 then 0 else (nm_g x 2 a1))
def o_here (x : nM) (a1 : Int32) : Prop := ((x.1 1 ≤ a1 → True) ∧ (¬ (x.1 1 ≤ a1) → vp_in a1 180 ∧ True))
set_option maxHeartbeats 4000000 in
set_option maxRecDepth 100000 in
theorem t_here (l : Launch) (G : nn_G) (sz : Nat) (mo : Nat) (ad : Nat → Nat) (x : nM) (a1 : Int32) (hk : o_here x a1) : Met l y_Mo_here w_Mo_here ({ frames := 0, cells := 0, slots := 0, locals := 0 }) (nn_P G [.ref mo, .int a1] (nm_W G mo ad x) sz) (vp_Si (fun r => r = m_here x a1)) 0 0 (fun _ => False) := by
  refine Met.ofW (cc := b_Mo_here) (maxL := 2) (ret := some .int) (by decide) rfl ?_
  intro p e s m args below meth c s₁ B hml hv
  obtain ⟨rfl, hsz, hP, hK, hD0, hN⟩ := hv
  have hx := B.exec
  have hb := B.bytes
  have hr := B.returns
  have hts := atoms_spec (ws := w_Mo_here) B.pre
  have hg : ∀ w ∈ nn_gw, w.before _ s = true := fun w h => hts w (List.mem_cons_of_mem _ h)
  have hown : s.vm.findClass R_Mo = some m.cls := findClass_of_methodNamed B.named
  subst hsz
  have hD := hD0
  have hP : va_P G.1 nn_cls (nm_W G mo ad x) s.heap := hP
  have hl := lv_entry ([.ref mo, .int a1]) (n := 2) (Nat.le_of_ble_eq_true rfl)
  rw [lg_entry_eq]
  generalize (lg_sl ([.ref mo, .int a1]) ++ List.replicate (2 - (lg_sl ([.ref mo, .int a1])).length) Slot.unset).toArray = ls at hl ⊢
  have hl : lv_has ls 2 [(0, .ref mo), (1, .int a1)] := hl
  unfold o_here at hk
  refine lv_iload_n hx hb d_Mo_here_0 rfl (lv_at hl 1 rfl) ?_
  refine lv_aload_n hx hb d_Mo_here_1 rfl (lv_at hl 0 rfl) ?_
  refine nm_get hx hb hg hown hK hP 1 (by decide) (by decide) (hg _ mw_891) d_Mo_here_2 ?_
  refine lv_icmp_ge (tgt := 17) hx hb d_Mo_here_5 rfl (fun hc5 => ?_) (fun hc5 => ?_)
  · skip
    have hk := hk.1 hc5
    refine lv_iconst (v := 0) hx hb d_Mo_here_17 (by decide) ?_
    have hR : m_here x a1 = 0 := by rw [m_here]; rw [if_pos hc5]
    exact W.iret (v := 0) hx hb hr (fun t ht hW => ⟨0, rfl, hR.symm, ht⟩) (fun q h => by cases h) d_Mo_here_18
  · skip
    have hk := hk.2 hc5
    refine lv_aload_n hx hb d_Mo_here_8 rfl (lv_at hl 0 rfl) ?_
    refine nm_getA hx hb hg hown hK hP 2 (by decide) (by decide) (hg _ mw_892) d_Mo_here_9 ?_
    refine lv_iload_n hx hb d_Mo_here_12 rfl (lv_at hl 1 rfl) ?_
    obtain ⟨hi, hk⟩ := hk
    refine nm_ldc hx hb hK hP hi d_Mo_here_13 ?_
    refine lv_goto (tgt := 18) hx hb d_Mo_here_14 rfl ?_
    have hR : m_here x a1 = nm_g x 2 a1 := by rw [m_here]; rw [if_neg hc5]
    exact W.iret (v := nm_g x 2 a1) hx hb hr (fun t ht hW => ⟨nm_g x 2 a1, rfl, hR.symm, ht⟩) (fun q h => by cases h) d_Mo_here_18

theorem d_Mo_isLetter_0 : decode b_Mo_isLetter 0 = .ok (.iload_n 0, 1) := by decide +kernel
theorem d_Mo_isLetter_1 : decode b_Mo_isLetter 1 = .ok (.bipush 97, 2) := by decide +kernel
theorem d_Mo_isLetter_3 : decode b_Mo_isLetter 3 = .ok (.if_icmp .lt 13, 3) := by decide +kernel
theorem d_Mo_isLetter_6 : decode b_Mo_isLetter 6 = .ok (.iload_n 0, 1) := by decide +kernel
theorem d_Mo_isLetter_7 : decode b_Mo_isLetter 7 = .ok (.bipush 122, 2) := by decide +kernel
theorem d_Mo_isLetter_9 : decode b_Mo_isLetter 9 = .ok (.if_icmp .gt 7, 3) := by decide +kernel
theorem d_Mo_isLetter_12 : decode b_Mo_isLetter 12 = .ok (.iconst 1, 1) := by decide +kernel
theorem d_Mo_isLetter_13 : decode b_Mo_isLetter 13 = .ok (.goto 4, 3) := by decide +kernel
theorem d_Mo_isLetter_16 : decode b_Mo_isLetter 16 = .ok (.iconst 0, 1) := by decide +kernel
theorem d_Mo_isLetter_17 : decode b_Mo_isLetter 17 = .ok (.ireturn, 1) := by decide +kernel

def k_isLetter_16  : Int32 := 0
def m_isLetter (a0 : Int32) : Int32 := (if a0 < 97 then k_isLetter_16 else (if 122 < a0 then k_isLetter_16 else 1))
set_option maxHeartbeats 4000000 in
set_option maxRecDepth 100000 in
theorem t_isLetter (l : Launch) (G : nn_G) (sz : Nat) (a0 : Int32)  : Met l y_Mo_isLetter w_Mo_isLetter ({ frames := 0, cells := 0, slots := 0, locals := 0 }) (nn_P G [.int a0] [] sz) (vp_Si (fun r => r = m_isLetter a0)) 0 0 (fun _ => False) := by
  refine Met.ofW (cc := b_Mo_isLetter) (maxL := 1) (ret := some .boolean) (by decide) rfl ?_
  intro p e s m args below meth c s₁ B hml hv
  obtain ⟨rfl, hsz, hP, hK, hD0, hN⟩ := hv
  have hx := B.exec
  have hb := B.bytes
  have hr := B.returns
  have hts := atoms_spec (ws := w_Mo_isLetter) B.pre
  have hg : ∀ w ∈ nn_gw, w.before _ s = true := fun w h => hts w (List.mem_cons_of_mem _ h)
  have hown : s.vm.findClass R_Mo = some m.cls := findClass_of_methodNamed B.named
  subst hsz
  have hD := hD0
  have hP : va_P G.1 nn_cls [] s.heap := hP
  have hl := lv_entry ([.int a0]) (n := 1) (Nat.le_of_ble_eq_true rfl)
  rw [lg_entry_eq]
  generalize (lg_sl ([.int a0]) ++ List.replicate (1 - (lg_sl ([.int a0])).length) Slot.unset).toArray = ls at hl ⊢
  have hl : lv_has ls 1 [(0, .int a0)] := hl
  have J16 : ∀  (ls : Array Slot), lv_has ls 1 [] → W p l e (headSpec w_Mo_isLetter ({ frames := 0, cells := 0, slots := 0, locals := 0 })).room s m [.int a0].toArray below meth c s.heap [] 0 0 (MQ below (vp_Si (fun r => r = k_isLetter_16)) [.int a0].toArray s 0 0 (fun _ => False)) (F0 m 16 ls []) := by
    intro  ls hl
    refine lv_iconst (v := 0) hx hb d_Mo_isLetter_16 (by decide) ?_
    have hR : k_isLetter_16 = 0 := by rw [k_isLetter_16]
    exact W.zret (v := 0) hx hb hr rfl (fun t ht hW => ⟨0, rfl, hR.symm, ht⟩) (fun q h => by cases h) d_Mo_isLetter_17
  refine lv_iload_n hx hb d_Mo_isLetter_0 rfl (lv_at hl 0 rfl) ?_
  refine lv_bipush (v := 97) hx hb d_Mo_isLetter_1 (by decide) ?_
  refine lv_icmp_lt (tgt := 16) hx hb d_Mo_isLetter_3 rfl (fun hc3 => ?_) (fun hc3 => ?_)
  · skip
    have hl := lv_sub (l' := []) hl [] rfl
    have hR : m_isLetter a0 = k_isLetter_16 := by rw [m_isLetter]; rw [if_pos hc3]
    exact nm_W3 hR (J16 ls hl)
  · skip
    refine lv_iload_n hx hb d_Mo_isLetter_6 rfl (lv_at hl 0 rfl) ?_
    refine lv_bipush (v := 122) hx hb d_Mo_isLetter_7 (by decide) ?_
    refine lv_icmp_gt (tgt := 16) hx hb d_Mo_isLetter_9 rfl (fun hc9 => ?_) (fun hc9 => ?_)
    · skip
      have hl := lv_sub (l' := []) hl [] rfl
      have hR : m_isLetter a0 = k_isLetter_16 := by rw [m_isLetter]; rw [if_neg hc3]; rw [if_pos hc9]
      exact nm_W3 hR (J16 ls hl)
    · skip
      refine lv_iconst (v := 1) hx hb d_Mo_isLetter_12 (by decide) ?_
      refine lv_goto (tgt := 17) hx hb d_Mo_isLetter_13 rfl ?_
      have hR : m_isLetter a0 = 1 := by rw [m_isLetter]; rw [if_neg hc3]; rw [if_neg hc9]
      exact W.zret (v := 1) hx hb hr rfl (fun t ht hW => ⟨1, rfl, hR.symm, ht⟩) (fun q h => by cases h) d_Mo_isLetter_17

theorem d_Mo_isDigit_0 : decode b_Mo_isDigit 0 = .ok (.iload_n 0, 1) := by decide +kernel
theorem d_Mo_isDigit_1 : decode b_Mo_isDigit 1 = .ok (.bipush 48, 2) := by decide +kernel
theorem d_Mo_isDigit_3 : decode b_Mo_isDigit 3 = .ok (.if_icmp .lt 13, 3) := by decide +kernel
theorem d_Mo_isDigit_6 : decode b_Mo_isDigit 6 = .ok (.iload_n 0, 1) := by decide +kernel
theorem d_Mo_isDigit_7 : decode b_Mo_isDigit 7 = .ok (.bipush 57, 2) := by decide +kernel
theorem d_Mo_isDigit_9 : decode b_Mo_isDigit 9 = .ok (.if_icmp .gt 7, 3) := by decide +kernel
theorem d_Mo_isDigit_12 : decode b_Mo_isDigit 12 = .ok (.iconst 1, 1) := by decide +kernel
theorem d_Mo_isDigit_13 : decode b_Mo_isDigit 13 = .ok (.goto 4, 3) := by decide +kernel
theorem d_Mo_isDigit_16 : decode b_Mo_isDigit 16 = .ok (.iconst 0, 1) := by decide +kernel
theorem d_Mo_isDigit_17 : decode b_Mo_isDigit 17 = .ok (.ireturn, 1) := by decide +kernel

def k_isDigit_16  : Int32 := 0
def m_isDigit (a0 : Int32) : Int32 := (if a0 < 48 then k_isDigit_16 else (if 57 < a0 then k_isDigit_16 else 1))
set_option maxHeartbeats 4000000 in
set_option maxRecDepth 100000 in
theorem t_isDigit (l : Launch) (G : nn_G) (sz : Nat) (a0 : Int32)  : Met l y_Mo_isDigit w_Mo_isDigit ({ frames := 0, cells := 0, slots := 0, locals := 0 }) (nn_P G [.int a0] [] sz) (vp_Si (fun r => r = m_isDigit a0)) 0 0 (fun _ => False) := by
  refine Met.ofW (cc := b_Mo_isDigit) (maxL := 1) (ret := some .boolean) (by decide) rfl ?_
  intro p e s m args below meth c s₁ B hml hv
  obtain ⟨rfl, hsz, hP, hK, hD0, hN⟩ := hv
  have hx := B.exec
  have hb := B.bytes
  have hr := B.returns
  have hts := atoms_spec (ws := w_Mo_isDigit) B.pre
  have hg : ∀ w ∈ nn_gw, w.before _ s = true := fun w h => hts w (List.mem_cons_of_mem _ h)
  have hown : s.vm.findClass R_Mo = some m.cls := findClass_of_methodNamed B.named
  subst hsz
  have hD := hD0
  have hP : va_P G.1 nn_cls [] s.heap := hP
  have hl := lv_entry ([.int a0]) (n := 1) (Nat.le_of_ble_eq_true rfl)
  rw [lg_entry_eq]
  generalize (lg_sl ([.int a0]) ++ List.replicate (1 - (lg_sl ([.int a0])).length) Slot.unset).toArray = ls at hl ⊢
  have hl : lv_has ls 1 [(0, .int a0)] := hl
  have J16 : ∀  (ls : Array Slot), lv_has ls 1 [] → W p l e (headSpec w_Mo_isDigit ({ frames := 0, cells := 0, slots := 0, locals := 0 })).room s m [.int a0].toArray below meth c s.heap [] 0 0 (MQ below (vp_Si (fun r => r = k_isDigit_16)) [.int a0].toArray s 0 0 (fun _ => False)) (F0 m 16 ls []) := by
    intro  ls hl
    refine lv_iconst (v := 0) hx hb d_Mo_isDigit_16 (by decide) ?_
    have hR : k_isDigit_16 = 0 := by rw [k_isDigit_16]
    exact W.zret (v := 0) hx hb hr rfl (fun t ht hW => ⟨0, rfl, hR.symm, ht⟩) (fun q h => by cases h) d_Mo_isDigit_17
  refine lv_iload_n hx hb d_Mo_isDigit_0 rfl (lv_at hl 0 rfl) ?_
  refine lv_bipush (v := 48) hx hb d_Mo_isDigit_1 (by decide) ?_
  refine lv_icmp_lt (tgt := 16) hx hb d_Mo_isDigit_3 rfl (fun hc3 => ?_) (fun hc3 => ?_)
  · skip
    have hl := lv_sub (l' := []) hl [] rfl
    have hR : m_isDigit a0 = k_isDigit_16 := by rw [m_isDigit]; rw [if_pos hc3]
    exact nm_W3 hR (J16 ls hl)
  · skip
    refine lv_iload_n hx hb d_Mo_isDigit_6 rfl (lv_at hl 0 rfl) ?_
    refine lv_bipush (v := 57) hx hb d_Mo_isDigit_7 (by decide) ?_
    refine lv_icmp_gt (tgt := 16) hx hb d_Mo_isDigit_9 rfl (fun hc9 => ?_) (fun hc9 => ?_)
    · skip
      have hl := lv_sub (l' := []) hl [] rfl
      have hR : m_isDigit a0 = k_isDigit_16 := by rw [m_isDigit]; rw [if_neg hc3]; rw [if_pos hc9]
      exact nm_W3 hR (J16 ls hl)
    · skip
      refine lv_iconst (v := 1) hx hb d_Mo_isDigit_12 (by decide) ?_
      refine lv_goto (tgt := 17) hx hb d_Mo_isDigit_13 rfl ?_
      have hR : m_isDigit a0 = 1 := by rw [m_isDigit]; rw [if_neg hc3]; rw [if_neg hc9]
      exact W.zret (v := 1) hx hb hr rfl (fun t ht hW => ⟨1, rfl, hR.symm, ht⟩) (fun q h => by cases h) d_Mo_isDigit_17

theorem d_Mo_wordOf_0 : decode b_Mo_wordOf 0 = .ok (.iload_n 0, 1) := by decide +kernel
theorem d_Mo_wordOf_1 : decode b_Mo_wordOf 1 = .ok (.lookupswitch 130 #[(143, 124), (294, 112), (5572, 109), (22578, 99), (176741, 118), (543203, 101), (663726, 115), (1656889, 103), (2268462, 106), (24388997, 121), (24716933, 127)], 99) := by decide +kernel
theorem d_Mo_wordOf_100 : decode b_Mo_wordOf 100 = .ok (.iconst 4, 1) := by decide +kernel
theorem d_Mo_wordOf_101 : decode b_Mo_wordOf 101 = .ok (.ireturn, 1) := by decide +kernel
theorem d_Mo_wordOf_102 : decode b_Mo_wordOf 102 = .ok (.iconst 5, 1) := by decide +kernel
theorem d_Mo_wordOf_103 : decode b_Mo_wordOf 103 = .ok (.ireturn, 1) := by decide +kernel
theorem d_Mo_wordOf_104 : decode b_Mo_wordOf 104 = .ok (.bipush 6, 2) := by decide +kernel
theorem d_Mo_wordOf_106 : decode b_Mo_wordOf 106 = .ok (.ireturn, 1) := by decide +kernel
theorem d_Mo_wordOf_107 : decode b_Mo_wordOf 107 = .ok (.bipush 7, 2) := by decide +kernel
theorem d_Mo_wordOf_109 : decode b_Mo_wordOf 109 = .ok (.ireturn, 1) := by decide +kernel
theorem d_Mo_wordOf_110 : decode b_Mo_wordOf 110 = .ok (.bipush 8, 2) := by decide +kernel
theorem d_Mo_wordOf_112 : decode b_Mo_wordOf 112 = .ok (.ireturn, 1) := by decide +kernel
theorem d_Mo_wordOf_113 : decode b_Mo_wordOf 113 = .ok (.bipush 9, 2) := by decide +kernel
theorem d_Mo_wordOf_115 : decode b_Mo_wordOf 115 = .ok (.ireturn, 1) := by decide +kernel
theorem d_Mo_wordOf_116 : decode b_Mo_wordOf 116 = .ok (.bipush 10, 2) := by decide +kernel
theorem d_Mo_wordOf_118 : decode b_Mo_wordOf 118 = .ok (.ireturn, 1) := by decide +kernel
theorem d_Mo_wordOf_119 : decode b_Mo_wordOf 119 = .ok (.bipush 11, 2) := by decide +kernel
theorem d_Mo_wordOf_121 : decode b_Mo_wordOf 121 = .ok (.ireturn, 1) := by decide +kernel
theorem d_Mo_wordOf_122 : decode b_Mo_wordOf 122 = .ok (.bipush 12, 2) := by decide +kernel
theorem d_Mo_wordOf_124 : decode b_Mo_wordOf 124 = .ok (.ireturn, 1) := by decide +kernel
theorem d_Mo_wordOf_125 : decode b_Mo_wordOf 125 = .ok (.bipush 13, 2) := by decide +kernel
theorem d_Mo_wordOf_127 : decode b_Mo_wordOf 127 = .ok (.ireturn, 1) := by decide +kernel
theorem d_Mo_wordOf_128 : decode b_Mo_wordOf 128 = .ok (.bipush 14, 2) := by decide +kernel
theorem d_Mo_wordOf_130 : decode b_Mo_wordOf 130 = .ok (.ireturn, 1) := by decide +kernel
theorem d_Mo_wordOf_131 : decode b_Mo_wordOf 131 = .ok (.iconst 2, 1) := by decide +kernel
theorem d_Mo_wordOf_132 : decode b_Mo_wordOf 132 = .ok (.ireturn, 1) := by decide +kernel

def m_wordOf (a0 : Int32) : Int32 := (if a0 = 143 then 13 else (if a0 = 294 then 9 else (if a0 = 5572 then 8 else (if a0 = 22578 then 4 else (if a0 = 176741 then 11 else (if a0 = 543203 then 5 else (if a0 = 663726 then 10 else (if a0 = 1656889 then 6 else (if a0 = 2268462 then 7 else (if a0 = 24388997 then 12 else (if a0 = 24716933 then 14 else 2)))))))))))
set_option maxHeartbeats 4000000 in
set_option maxRecDepth 100000 in
theorem t_wordOf (l : Launch) (G : nn_G) (sz : Nat) (a0 : Int32)  : Met l y_Mo_wordOf w_Mo_wordOf ({ frames := 0, cells := 0, slots := 0, locals := 0 }) (nn_P G [.int a0] [] sz) (vp_Si (fun r => r = m_wordOf a0)) 0 0 (fun _ => False) := by
  refine Met.ofW (cc := b_Mo_wordOf) (maxL := 1) (ret := some .int) (by decide) rfl ?_
  intro p e s m args below meth c s₁ B hml hv
  obtain ⟨rfl, hsz, hP, hK, hD0, hN⟩ := hv
  have hx := B.exec
  have hb := B.bytes
  have hr := B.returns
  have hts := atoms_spec (ws := w_Mo_wordOf) B.pre
  have hg : ∀ w ∈ nn_gw, w.before _ s = true := fun w h => hts w (List.mem_cons_of_mem _ h)
  have hown : s.vm.findClass R_Mo = some m.cls := findClass_of_methodNamed B.named
  subst hsz
  have hD := hD0
  have hP : va_P G.1 nn_cls [] s.heap := hP
  have hl := lv_entry ([.int a0]) (n := 1) (Nat.le_of_ble_eq_true rfl)
  rw [lg_entry_eq]
  generalize (lg_sl ([.int a0]) ++ List.replicate (1 - (lg_sl ([.int a0])).length) Slot.unset).toArray = ls at hl ⊢
  have hl : lv_has ls 1 [(0, .int a0)] := hl
  refine lv_iload_n hx hb d_Mo_wordOf_0 rfl (lv_at hl 0 rfl) ?_
  by_cases hk1_143 : a0 = 143
  · skip
    refine lv_lookup (off := 124) (tgt := 125) hx hb d_Mo_wordOf_1 (by decide) (by rw [hk1_143]; decide) rfl ?_
    refine lv_bipush (v := 13) hx hb d_Mo_wordOf_125 (by decide) ?_
    have hR : m_wordOf a0 = 13 := by rw [m_wordOf]; rw [if_pos hk1_143]
    exact W.iret (v := 13) hx hb hr (fun t ht hW => ⟨13, rfl, hR.symm, ht⟩) (fun q h => by cases h) d_Mo_wordOf_127
  by_cases hk1_294 : a0 = 294
  · skip
    refine lv_lookup (off := 112) (tgt := 113) hx hb d_Mo_wordOf_1 (by decide) (by rw [hk1_294]; decide) rfl ?_
    refine lv_bipush (v := 9) hx hb d_Mo_wordOf_113 (by decide) ?_
    have hR : m_wordOf a0 = 9 := by rw [m_wordOf]; rw [if_neg hk1_143]; rw [if_pos hk1_294]
    exact W.iret (v := 9) hx hb hr (fun t ht hW => ⟨9, rfl, hR.symm, ht⟩) (fun q h => by cases h) d_Mo_wordOf_115
  by_cases hk1_5572 : a0 = 5572
  · skip
    refine lv_lookup (off := 109) (tgt := 110) hx hb d_Mo_wordOf_1 (by decide) (by rw [hk1_5572]; decide) rfl ?_
    refine lv_bipush (v := 8) hx hb d_Mo_wordOf_110 (by decide) ?_
    have hR : m_wordOf a0 = 8 := by rw [m_wordOf]; rw [if_neg hk1_143]; rw [if_neg hk1_294]; rw [if_pos hk1_5572]
    exact W.iret (v := 8) hx hb hr (fun t ht hW => ⟨8, rfl, hR.symm, ht⟩) (fun q h => by cases h) d_Mo_wordOf_112
  by_cases hk1_22578 : a0 = 22578
  · skip
    refine lv_lookup (off := 99) (tgt := 100) hx hb d_Mo_wordOf_1 (by decide) (by rw [hk1_22578]; decide) rfl ?_
    refine lv_iconst (v := 4) hx hb d_Mo_wordOf_100 (by decide) ?_
    have hR : m_wordOf a0 = 4 := by rw [m_wordOf]; rw [if_neg hk1_143]; rw [if_neg hk1_294]; rw [if_neg hk1_5572]; rw [if_pos hk1_22578]
    exact W.iret (v := 4) hx hb hr (fun t ht hW => ⟨4, rfl, hR.symm, ht⟩) (fun q h => by cases h) d_Mo_wordOf_101
  by_cases hk1_176741 : a0 = 176741
  · skip
    refine lv_lookup (off := 118) (tgt := 119) hx hb d_Mo_wordOf_1 (by decide) (by rw [hk1_176741]; decide) rfl ?_
    refine lv_bipush (v := 11) hx hb d_Mo_wordOf_119 (by decide) ?_
    have hR : m_wordOf a0 = 11 := by rw [m_wordOf]; rw [if_neg hk1_143]; rw [if_neg hk1_294]; rw [if_neg hk1_5572]; rw [if_neg hk1_22578]; rw [if_pos hk1_176741]
    exact W.iret (v := 11) hx hb hr (fun t ht hW => ⟨11, rfl, hR.symm, ht⟩) (fun q h => by cases h) d_Mo_wordOf_121
  by_cases hk1_543203 : a0 = 543203
  · skip
    refine lv_lookup (off := 101) (tgt := 102) hx hb d_Mo_wordOf_1 (by decide) (by rw [hk1_543203]; decide) rfl ?_
    refine lv_iconst (v := 5) hx hb d_Mo_wordOf_102 (by decide) ?_
    have hR : m_wordOf a0 = 5 := by rw [m_wordOf]; rw [if_neg hk1_143]; rw [if_neg hk1_294]; rw [if_neg hk1_5572]; rw [if_neg hk1_22578]; rw [if_neg hk1_176741]; rw [if_pos hk1_543203]
    exact W.iret (v := 5) hx hb hr (fun t ht hW => ⟨5, rfl, hR.symm, ht⟩) (fun q h => by cases h) d_Mo_wordOf_103
  by_cases hk1_663726 : a0 = 663726
  · skip
    refine lv_lookup (off := 115) (tgt := 116) hx hb d_Mo_wordOf_1 (by decide) (by rw [hk1_663726]; decide) rfl ?_
    refine lv_bipush (v := 10) hx hb d_Mo_wordOf_116 (by decide) ?_
    have hR : m_wordOf a0 = 10 := by rw [m_wordOf]; rw [if_neg hk1_143]; rw [if_neg hk1_294]; rw [if_neg hk1_5572]; rw [if_neg hk1_22578]; rw [if_neg hk1_176741]; rw [if_neg hk1_543203]; rw [if_pos hk1_663726]
    exact W.iret (v := 10) hx hb hr (fun t ht hW => ⟨10, rfl, hR.symm, ht⟩) (fun q h => by cases h) d_Mo_wordOf_118
  by_cases hk1_1656889 : a0 = 1656889
  · skip
    refine lv_lookup (off := 103) (tgt := 104) hx hb d_Mo_wordOf_1 (by decide) (by rw [hk1_1656889]; decide) rfl ?_
    refine lv_bipush (v := 6) hx hb d_Mo_wordOf_104 (by decide) ?_
    have hR : m_wordOf a0 = 6 := by rw [m_wordOf]; rw [if_neg hk1_143]; rw [if_neg hk1_294]; rw [if_neg hk1_5572]; rw [if_neg hk1_22578]; rw [if_neg hk1_176741]; rw [if_neg hk1_543203]; rw [if_neg hk1_663726]; rw [if_pos hk1_1656889]
    exact W.iret (v := 6) hx hb hr (fun t ht hW => ⟨6, rfl, hR.symm, ht⟩) (fun q h => by cases h) d_Mo_wordOf_106
  by_cases hk1_2268462 : a0 = 2268462
  · skip
    refine lv_lookup (off := 106) (tgt := 107) hx hb d_Mo_wordOf_1 (by decide) (by rw [hk1_2268462]; decide) rfl ?_
    refine lv_bipush (v := 7) hx hb d_Mo_wordOf_107 (by decide) ?_
    have hR : m_wordOf a0 = 7 := by rw [m_wordOf]; rw [if_neg hk1_143]; rw [if_neg hk1_294]; rw [if_neg hk1_5572]; rw [if_neg hk1_22578]; rw [if_neg hk1_176741]; rw [if_neg hk1_543203]; rw [if_neg hk1_663726]; rw [if_neg hk1_1656889]; rw [if_pos hk1_2268462]
    exact W.iret (v := 7) hx hb hr (fun t ht hW => ⟨7, rfl, hR.symm, ht⟩) (fun q h => by cases h) d_Mo_wordOf_109
  by_cases hk1_24388997 : a0 = 24388997
  · skip
    refine lv_lookup (off := 121) (tgt := 122) hx hb d_Mo_wordOf_1 (by decide) (by rw [hk1_24388997]; decide) rfl ?_
    refine lv_bipush (v := 12) hx hb d_Mo_wordOf_122 (by decide) ?_
    have hR : m_wordOf a0 = 12 := by rw [m_wordOf]; rw [if_neg hk1_143]; rw [if_neg hk1_294]; rw [if_neg hk1_5572]; rw [if_neg hk1_22578]; rw [if_neg hk1_176741]; rw [if_neg hk1_543203]; rw [if_neg hk1_663726]; rw [if_neg hk1_1656889]; rw [if_neg hk1_2268462]; rw [if_pos hk1_24388997]
    exact W.iret (v := 12) hx hb hr (fun t ht hW => ⟨12, rfl, hR.symm, ht⟩) (fun q h => by cases h) d_Mo_wordOf_124
  by_cases hk1_24716933 : a0 = 24716933
  · skip
    refine lv_lookup (off := 127) (tgt := 128) hx hb d_Mo_wordOf_1 (by decide) (by rw [hk1_24716933]; decide) rfl ?_
    refine lv_bipush (v := 14) hx hb d_Mo_wordOf_128 (by decide) ?_
    have hR : m_wordOf a0 = 14 := by rw [m_wordOf]; rw [if_neg hk1_143]; rw [if_neg hk1_294]; rw [if_neg hk1_5572]; rw [if_neg hk1_22578]; rw [if_neg hk1_176741]; rw [if_neg hk1_543203]; rw [if_neg hk1_663726]; rw [if_neg hk1_1656889]; rw [if_neg hk1_2268462]; rw [if_neg hk1_24388997]; rw [if_pos hk1_24716933]
    exact W.iret (v := 14) hx hb hr (fun t ht hW => ⟨14, rfl, hR.symm, ht⟩) (fun q h => by cases h) d_Mo_wordOf_130
  refine lv_lookup (off := 130) (tgt := 131) hx hb d_Mo_wordOf_1 (by decide) (by (show Op.lookupswitch.offset (_ :: _) _ _ = _); rw [lv_osw hk1_143 (by decide)]; (show Op.lookupswitch.offset (_ :: _) _ _ = _); rw [lv_osw hk1_294 (by decide)]; (show Op.lookupswitch.offset (_ :: _) _ _ = _); rw [lv_osw hk1_5572 (by decide)]; (show Op.lookupswitch.offset (_ :: _) _ _ = _); rw [lv_osw hk1_22578 (by decide)]; (show Op.lookupswitch.offset (_ :: _) _ _ = _); rw [lv_osw hk1_176741 (by decide)]; (show Op.lookupswitch.offset (_ :: _) _ _ = _); rw [lv_osw hk1_543203 (by decide)]; (show Op.lookupswitch.offset (_ :: _) _ _ = _); rw [lv_osw hk1_663726 (by decide)]; (show Op.lookupswitch.offset (_ :: _) _ _ = _); rw [lv_osw hk1_1656889 (by decide)]; (show Op.lookupswitch.offset (_ :: _) _ _ = _); rw [lv_osw hk1_2268462 (by decide)]; (show Op.lookupswitch.offset (_ :: _) _ _ = _); rw [lv_osw hk1_24388997 (by decide)]; (show Op.lookupswitch.offset (_ :: _) _ _ = _); rw [lv_osw hk1_24716933 (by decide)]; rfl) rfl ?_
  refine lv_iconst (v := 2) hx hb d_Mo_wordOf_131 (by decide) ?_
  have hR : m_wordOf a0 = 2 := by rw [m_wordOf]; rw [if_neg hk1_143]; rw [if_neg hk1_294]; rw [if_neg hk1_5572]; rw [if_neg hk1_22578]; rw [if_neg hk1_176741]; rw [if_neg hk1_543203]; rw [if_neg hk1_663726]; rw [if_neg hk1_1656889]; rw [if_neg hk1_2268462]; rw [if_neg hk1_24388997]; rw [if_neg hk1_24716933]
  exact W.iret (v := 2) hx hb hr (fun t ht hW => ⟨2, rfl, hR.symm, ht⟩) (fun q h => by cases h) d_Mo_wordOf_132

theorem d_Mo_isSign_0 : decode b_Mo_isSign 0 = .ok (.iload_n 0, 1) := by decide +kernel
theorem d_Mo_isSign_1 : decode b_Mo_isSign 1 = .ok (.bipush 43, 2) := by decide +kernel
theorem d_Mo_isSign_3 : decode b_Mo_isSign 3 = .ok (.if_icmp .eq 87, 3) := by decide +kernel
theorem d_Mo_isSign_6 : decode b_Mo_isSign 6 = .ok (.iload_n 0, 1) := by decide +kernel
theorem d_Mo_isSign_7 : decode b_Mo_isSign 7 = .ok (.bipush 45, 2) := by decide +kernel
theorem d_Mo_isSign_9 : decode b_Mo_isSign 9 = .ok (.if_icmp .eq 81, 3) := by decide +kernel
theorem d_Mo_isSign_12 : decode b_Mo_isSign 12 = .ok (.iload_n 0, 1) := by decide +kernel
theorem d_Mo_isSign_13 : decode b_Mo_isSign 13 = .ok (.bipush 42, 2) := by decide +kernel
theorem d_Mo_isSign_15 : decode b_Mo_isSign 15 = .ok (.if_icmp .eq 75, 3) := by decide +kernel
theorem d_Mo_isSign_18 : decode b_Mo_isSign 18 = .ok (.iload_n 0, 1) := by decide +kernel
theorem d_Mo_isSign_19 : decode b_Mo_isSign 19 = .ok (.bipush 47, 2) := by decide +kernel
theorem d_Mo_isSign_21 : decode b_Mo_isSign 21 = .ok (.if_icmp .eq 69, 3) := by decide +kernel
theorem d_Mo_isSign_24 : decode b_Mo_isSign 24 = .ok (.iload_n 0, 1) := by decide +kernel
theorem d_Mo_isSign_25 : decode b_Mo_isSign 25 = .ok (.bipush 61, 2) := by decide +kernel
theorem d_Mo_isSign_27 : decode b_Mo_isSign 27 = .ok (.if_icmp .eq 63, 3) := by decide +kernel
theorem d_Mo_isSign_30 : decode b_Mo_isSign 30 = .ok (.iload_n 0, 1) := by decide +kernel
theorem d_Mo_isSign_31 : decode b_Mo_isSign 31 = .ok (.bipush 35, 2) := by decide +kernel
theorem d_Mo_isSign_33 : decode b_Mo_isSign 33 = .ok (.if_icmp .eq 57, 3) := by decide +kernel
theorem d_Mo_isSign_36 : decode b_Mo_isSign 36 = .ok (.iload_n 0, 1) := by decide +kernel
theorem d_Mo_isSign_37 : decode b_Mo_isSign 37 = .ok (.bipush 60, 2) := by decide +kernel
theorem d_Mo_isSign_39 : decode b_Mo_isSign 39 = .ok (.if_icmp .eq 51, 3) := by decide +kernel
theorem d_Mo_isSign_42 : decode b_Mo_isSign 42 = .ok (.iload_n 0, 1) := by decide +kernel
theorem d_Mo_isSign_43 : decode b_Mo_isSign 43 = .ok (.bipush 62, 2) := by decide +kernel
theorem d_Mo_isSign_45 : decode b_Mo_isSign 45 = .ok (.if_icmp .eq 45, 3) := by decide +kernel
theorem d_Mo_isSign_48 : decode b_Mo_isSign 48 = .ok (.iload_n 0, 1) := by decide +kernel
theorem d_Mo_isSign_49 : decode b_Mo_isSign 49 = .ok (.bipush 40, 2) := by decide +kernel
theorem d_Mo_isSign_51 : decode b_Mo_isSign 51 = .ok (.if_icmp .eq 39, 3) := by decide +kernel
theorem d_Mo_isSign_54 : decode b_Mo_isSign 54 = .ok (.iload_n 0, 1) := by decide +kernel
theorem d_Mo_isSign_55 : decode b_Mo_isSign 55 = .ok (.bipush 41, 2) := by decide +kernel
theorem d_Mo_isSign_57 : decode b_Mo_isSign 57 = .ok (.if_icmp .eq 33, 3) := by decide +kernel
theorem d_Mo_isSign_60 : decode b_Mo_isSign 60 = .ok (.iload_n 0, 1) := by decide +kernel
theorem d_Mo_isSign_61 : decode b_Mo_isSign 61 = .ok (.bipush 91, 2) := by decide +kernel
theorem d_Mo_isSign_63 : decode b_Mo_isSign 63 = .ok (.if_icmp .eq 27, 3) := by decide +kernel
theorem d_Mo_isSign_66 : decode b_Mo_isSign 66 = .ok (.iload_n 0, 1) := by decide +kernel
theorem d_Mo_isSign_67 : decode b_Mo_isSign 67 = .ok (.bipush 93, 2) := by decide +kernel
theorem d_Mo_isSign_69 : decode b_Mo_isSign 69 = .ok (.if_icmp .eq 21, 3) := by decide +kernel
theorem d_Mo_isSign_72 : decode b_Mo_isSign 72 = .ok (.iload_n 0, 1) := by decide +kernel
theorem d_Mo_isSign_73 : decode b_Mo_isSign 73 = .ok (.bipush 44, 2) := by decide +kernel
theorem d_Mo_isSign_75 : decode b_Mo_isSign 75 = .ok (.if_icmp .eq 15, 3) := by decide +kernel
theorem d_Mo_isSign_78 : decode b_Mo_isSign 78 = .ok (.iload_n 0, 1) := by decide +kernel
theorem d_Mo_isSign_79 : decode b_Mo_isSign 79 = .ok (.bipush 59, 2) := by decide +kernel
theorem d_Mo_isSign_81 : decode b_Mo_isSign 81 = .ok (.if_icmp .eq 9, 3) := by decide +kernel
theorem d_Mo_isSign_84 : decode b_Mo_isSign 84 = .ok (.iload_n 0, 1) := by decide +kernel
theorem d_Mo_isSign_85 : decode b_Mo_isSign 85 = .ok (.bipush 46, 2) := by decide +kernel
theorem d_Mo_isSign_87 : decode b_Mo_isSign 87 = .ok (.if_icmp .ne 7, 3) := by decide +kernel
theorem d_Mo_isSign_90 : decode b_Mo_isSign 90 = .ok (.iconst 1, 1) := by decide +kernel
theorem d_Mo_isSign_91 : decode b_Mo_isSign 91 = .ok (.goto 4, 3) := by decide +kernel
theorem d_Mo_isSign_94 : decode b_Mo_isSign 94 = .ok (.iconst 0, 1) := by decide +kernel
theorem d_Mo_isSign_95 : decode b_Mo_isSign 95 = .ok (.ireturn, 1) := by decide +kernel

def k_isSign_90  : Int32 := 1
def m_isSign (a0 : Int32) : Int32 := (if a0 = 43 then k_isSign_90 else (if a0 = 45 then k_isSign_90 else (if a0 = 42 then k_isSign_90 else (if a0 = 47 then k_isSign_90 else (if a0 = 61 then k_isSign_90 else (if a0 = 35 then k_isSign_90 else (if a0 = 60 then k_isSign_90 else (if a0 = 62 then k_isSign_90 else (if a0 = 40 then k_isSign_90 else (if a0 = 41 then k_isSign_90 else (if a0 = 91 then k_isSign_90 else (if a0 = 93 then k_isSign_90 else (if a0 = 44 then k_isSign_90 else (if a0 = 59 then k_isSign_90 else (if a0 = 46 then k_isSign_90 else 0)))))))))))))))
set_option maxHeartbeats 4000000 in
set_option maxRecDepth 100000 in
theorem t_isSign (l : Launch) (G : nn_G) (sz : Nat) (a0 : Int32)  : Met l y_Mo_isSign w_Mo_isSign ({ frames := 0, cells := 0, slots := 0, locals := 0 }) (nn_P G [.int a0] [] sz) (vp_Si (fun r => r = m_isSign a0)) 0 0 (fun _ => False) := by
  refine Met.ofW (cc := b_Mo_isSign) (maxL := 1) (ret := some .boolean) (by decide) rfl ?_
  intro p e s m args below meth c s₁ B hml hv
  obtain ⟨rfl, hsz, hP, hK, hD0, hN⟩ := hv
  have hx := B.exec
  have hb := B.bytes
  have hr := B.returns
  have hts := atoms_spec (ws := w_Mo_isSign) B.pre
  have hg : ∀ w ∈ nn_gw, w.before _ s = true := fun w h => hts w (List.mem_cons_of_mem _ h)
  have hown : s.vm.findClass R_Mo = some m.cls := findClass_of_methodNamed B.named
  subst hsz
  have hD := hD0
  have hP : va_P G.1 nn_cls [] s.heap := hP
  have hl := lv_entry ([.int a0]) (n := 1) (Nat.le_of_ble_eq_true rfl)
  rw [lg_entry_eq]
  generalize (lg_sl ([.int a0]) ++ List.replicate (1 - (lg_sl ([.int a0])).length) Slot.unset).toArray = ls at hl ⊢
  have hl : lv_has ls 1 [(0, .int a0)] := hl
  have J90 : ∀  (ls : Array Slot), lv_has ls 1 [] → W p l e (headSpec w_Mo_isSign ({ frames := 0, cells := 0, slots := 0, locals := 0 })).room s m [.int a0].toArray below meth c s.heap [] 0 0 (MQ below (vp_Si (fun r => r = k_isSign_90)) [.int a0].toArray s 0 0 (fun _ => False)) (F0 m 90 ls []) := by
    intro  ls hl
    refine lv_iconst (v := 1) hx hb d_Mo_isSign_90 (by decide) ?_
    refine lv_goto (tgt := 95) hx hb d_Mo_isSign_91 rfl ?_
    have hR : k_isSign_90 = 1 := by rw [k_isSign_90]
    exact W.zret (v := 1) hx hb hr rfl (fun t ht hW => ⟨1, rfl, hR.symm, ht⟩) (fun q h => by cases h) d_Mo_isSign_95
  refine lv_iload_n hx hb d_Mo_isSign_0 rfl (lv_at hl 0 rfl) ?_
  refine lv_bipush (v := 43) hx hb d_Mo_isSign_1 (by decide) ?_
  refine lv_icmp_eq (tgt := 90) hx hb d_Mo_isSign_3 rfl (fun hc3 => ?_) (fun hc3 => ?_)
  · skip
    have hl := lv_sub (l' := []) hl [] rfl
    have hR : m_isSign a0 = k_isSign_90 := by rw [m_isSign]; rw [if_pos hc3]
    exact nm_W3 hR (J90 ls hl)
  · skip
    refine lv_iload_n hx hb d_Mo_isSign_6 rfl (lv_at hl 0 rfl) ?_
    refine lv_bipush (v := 45) hx hb d_Mo_isSign_7 (by decide) ?_
    refine lv_icmp_eq (tgt := 90) hx hb d_Mo_isSign_9 rfl (fun hc9 => ?_) (fun hc9 => ?_)
    · skip
      have hl := lv_sub (l' := []) hl [] rfl
      have hR : m_isSign a0 = k_isSign_90 := by rw [m_isSign]; rw [if_neg hc3]; rw [if_pos hc9]
      exact nm_W3 hR (J90 ls hl)
    · skip
      refine lv_iload_n hx hb d_Mo_isSign_12 rfl (lv_at hl 0 rfl) ?_
      refine lv_bipush (v := 42) hx hb d_Mo_isSign_13 (by decide) ?_
      refine lv_icmp_eq (tgt := 90) hx hb d_Mo_isSign_15 rfl (fun hc15 => ?_) (fun hc15 => ?_)
      · skip
        have hl := lv_sub (l' := []) hl [] rfl
        have hR : m_isSign a0 = k_isSign_90 := by rw [m_isSign]; rw [if_neg hc3]; rw [if_neg hc9]; rw [if_pos hc15]
        exact nm_W3 hR (J90 ls hl)
      · skip
        refine lv_iload_n hx hb d_Mo_isSign_18 rfl (lv_at hl 0 rfl) ?_
        refine lv_bipush (v := 47) hx hb d_Mo_isSign_19 (by decide) ?_
        refine lv_icmp_eq (tgt := 90) hx hb d_Mo_isSign_21 rfl (fun hc21 => ?_) (fun hc21 => ?_)
        · skip
          have hl := lv_sub (l' := []) hl [] rfl
          have hR : m_isSign a0 = k_isSign_90 := by rw [m_isSign]; rw [if_neg hc3]; rw [if_neg hc9]; rw [if_neg hc15]; rw [if_pos hc21]
          exact nm_W3 hR (J90 ls hl)
        · skip
          refine lv_iload_n hx hb d_Mo_isSign_24 rfl (lv_at hl 0 rfl) ?_
          refine lv_bipush (v := 61) hx hb d_Mo_isSign_25 (by decide) ?_
          refine lv_icmp_eq (tgt := 90) hx hb d_Mo_isSign_27 rfl (fun hc27 => ?_) (fun hc27 => ?_)
          · skip
            have hl := lv_sub (l' := []) hl [] rfl
            have hR : m_isSign a0 = k_isSign_90 := by rw [m_isSign]; rw [if_neg hc3]; rw [if_neg hc9]; rw [if_neg hc15]; rw [if_neg hc21]; rw [if_pos hc27]
            exact nm_W3 hR (J90 ls hl)
          · skip
            refine lv_iload_n hx hb d_Mo_isSign_30 rfl (lv_at hl 0 rfl) ?_
            refine lv_bipush (v := 35) hx hb d_Mo_isSign_31 (by decide) ?_
            refine lv_icmp_eq (tgt := 90) hx hb d_Mo_isSign_33 rfl (fun hc33 => ?_) (fun hc33 => ?_)
            · skip
              have hl := lv_sub (l' := []) hl [] rfl
              have hR : m_isSign a0 = k_isSign_90 := by rw [m_isSign]; rw [if_neg hc3]; rw [if_neg hc9]; rw [if_neg hc15]; rw [if_neg hc21]; rw [if_neg hc27]; rw [if_pos hc33]
              exact nm_W3 hR (J90 ls hl)
            · skip
              refine lv_iload_n hx hb d_Mo_isSign_36 rfl (lv_at hl 0 rfl) ?_
              refine lv_bipush (v := 60) hx hb d_Mo_isSign_37 (by decide) ?_
              refine lv_icmp_eq (tgt := 90) hx hb d_Mo_isSign_39 rfl (fun hc39 => ?_) (fun hc39 => ?_)
              · skip
                have hl := lv_sub (l' := []) hl [] rfl
                have hR : m_isSign a0 = k_isSign_90 := by rw [m_isSign]; rw [if_neg hc3]; rw [if_neg hc9]; rw [if_neg hc15]; rw [if_neg hc21]; rw [if_neg hc27]; rw [if_neg hc33]; rw [if_pos hc39]
                exact nm_W3 hR (J90 ls hl)
              · skip
                refine lv_iload_n hx hb d_Mo_isSign_42 rfl (lv_at hl 0 rfl) ?_
                refine lv_bipush (v := 62) hx hb d_Mo_isSign_43 (by decide) ?_
                refine lv_icmp_eq (tgt := 90) hx hb d_Mo_isSign_45 rfl (fun hc45 => ?_) (fun hc45 => ?_)
                · skip
                  have hl := lv_sub (l' := []) hl [] rfl
                  have hR : m_isSign a0 = k_isSign_90 := by rw [m_isSign]; rw [if_neg hc3]; rw [if_neg hc9]; rw [if_neg hc15]; rw [if_neg hc21]; rw [if_neg hc27]; rw [if_neg hc33]; rw [if_neg hc39]; rw [if_pos hc45]
                  exact nm_W3 hR (J90 ls hl)
                · skip
                  refine lv_iload_n hx hb d_Mo_isSign_48 rfl (lv_at hl 0 rfl) ?_
                  refine lv_bipush (v := 40) hx hb d_Mo_isSign_49 (by decide) ?_
                  refine lv_icmp_eq (tgt := 90) hx hb d_Mo_isSign_51 rfl (fun hc51 => ?_) (fun hc51 => ?_)
                  · skip
                    have hl := lv_sub (l' := []) hl [] rfl
                    have hR : m_isSign a0 = k_isSign_90 := by rw [m_isSign]; rw [if_neg hc3]; rw [if_neg hc9]; rw [if_neg hc15]; rw [if_neg hc21]; rw [if_neg hc27]; rw [if_neg hc33]; rw [if_neg hc39]; rw [if_neg hc45]; rw [if_pos hc51]
                    exact nm_W3 hR (J90 ls hl)
                  · skip
                    refine lv_iload_n hx hb d_Mo_isSign_54 rfl (lv_at hl 0 rfl) ?_
                    refine lv_bipush (v := 41) hx hb d_Mo_isSign_55 (by decide) ?_
                    refine lv_icmp_eq (tgt := 90) hx hb d_Mo_isSign_57 rfl (fun hc57 => ?_) (fun hc57 => ?_)
                    · skip
                      have hl := lv_sub (l' := []) hl [] rfl
                      have hR : m_isSign a0 = k_isSign_90 := by rw [m_isSign]; rw [if_neg hc3]; rw [if_neg hc9]; rw [if_neg hc15]; rw [if_neg hc21]; rw [if_neg hc27]; rw [if_neg hc33]; rw [if_neg hc39]; rw [if_neg hc45]; rw [if_neg hc51]; rw [if_pos hc57]
                      exact nm_W3 hR (J90 ls hl)
                    · skip
                      refine lv_iload_n hx hb d_Mo_isSign_60 rfl (lv_at hl 0 rfl) ?_
                      refine lv_bipush (v := 91) hx hb d_Mo_isSign_61 (by decide) ?_
                      refine lv_icmp_eq (tgt := 90) hx hb d_Mo_isSign_63 rfl (fun hc63 => ?_) (fun hc63 => ?_)
                      · skip
                        have hl := lv_sub (l' := []) hl [] rfl
                        have hR : m_isSign a0 = k_isSign_90 := by rw [m_isSign]; rw [if_neg hc3]; rw [if_neg hc9]; rw [if_neg hc15]; rw [if_neg hc21]; rw [if_neg hc27]; rw [if_neg hc33]; rw [if_neg hc39]; rw [if_neg hc45]; rw [if_neg hc51]; rw [if_neg hc57]; rw [if_pos hc63]
                        exact nm_W3 hR (J90 ls hl)
                      · skip
                        refine lv_iload_n hx hb d_Mo_isSign_66 rfl (lv_at hl 0 rfl) ?_
                        refine lv_bipush (v := 93) hx hb d_Mo_isSign_67 (by decide) ?_
                        refine lv_icmp_eq (tgt := 90) hx hb d_Mo_isSign_69 rfl (fun hc69 => ?_) (fun hc69 => ?_)
                        · skip
                          have hl := lv_sub (l' := []) hl [] rfl
                          have hR : m_isSign a0 = k_isSign_90 := by rw [m_isSign]; rw [if_neg hc3]; rw [if_neg hc9]; rw [if_neg hc15]; rw [if_neg hc21]; rw [if_neg hc27]; rw [if_neg hc33]; rw [if_neg hc39]; rw [if_neg hc45]; rw [if_neg hc51]; rw [if_neg hc57]; rw [if_neg hc63]; rw [if_pos hc69]
                          exact nm_W3 hR (J90 ls hl)
                        · skip
                          refine lv_iload_n hx hb d_Mo_isSign_72 rfl (lv_at hl 0 rfl) ?_
                          refine lv_bipush (v := 44) hx hb d_Mo_isSign_73 (by decide) ?_
                          refine lv_icmp_eq (tgt := 90) hx hb d_Mo_isSign_75 rfl (fun hc75 => ?_) (fun hc75 => ?_)
                          · skip
                            have hl := lv_sub (l' := []) hl [] rfl
                            have hR : m_isSign a0 = k_isSign_90 := by rw [m_isSign]; rw [if_neg hc3]; rw [if_neg hc9]; rw [if_neg hc15]; rw [if_neg hc21]; rw [if_neg hc27]; rw [if_neg hc33]; rw [if_neg hc39]; rw [if_neg hc45]; rw [if_neg hc51]; rw [if_neg hc57]; rw [if_neg hc63]; rw [if_neg hc69]; rw [if_pos hc75]
                            exact nm_W3 hR (J90 ls hl)
                          · skip
                            refine lv_iload_n hx hb d_Mo_isSign_78 rfl (lv_at hl 0 rfl) ?_
                            refine lv_bipush (v := 59) hx hb d_Mo_isSign_79 (by decide) ?_
                            refine lv_icmp_eq (tgt := 90) hx hb d_Mo_isSign_81 rfl (fun hc81 => ?_) (fun hc81 => ?_)
                            · skip
                              have hl := lv_sub (l' := []) hl [] rfl
                              have hR : m_isSign a0 = k_isSign_90 := by rw [m_isSign]; rw [if_neg hc3]; rw [if_neg hc9]; rw [if_neg hc15]; rw [if_neg hc21]; rw [if_neg hc27]; rw [if_neg hc33]; rw [if_neg hc39]; rw [if_neg hc45]; rw [if_neg hc51]; rw [if_neg hc57]; rw [if_neg hc63]; rw [if_neg hc69]; rw [if_neg hc75]; rw [if_pos hc81]
                              exact nm_W3 hR (J90 ls hl)
                            · skip
                              refine lv_iload_n hx hb d_Mo_isSign_84 rfl (lv_at hl 0 rfl) ?_
                              refine lv_bipush (v := 46) hx hb d_Mo_isSign_85 (by decide) ?_
                              refine lv_icmp_ne (tgt := 94) hx hb d_Mo_isSign_87 rfl (fun hc87 => ?_) (fun hc87 => ?_)
                              · skip
                                refine lv_iconst (v := 0) hx hb d_Mo_isSign_94 (by decide) ?_
                                have hR : m_isSign a0 = 0 := by rw [m_isSign]; rw [if_neg hc3]; rw [if_neg hc9]; rw [if_neg hc15]; rw [if_neg hc21]; rw [if_neg hc27]; rw [if_neg hc33]; rw [if_neg hc39]; rw [if_neg hc45]; rw [if_neg hc51]; rw [if_neg hc57]; rw [if_neg hc63]; rw [if_neg hc69]; rw [if_neg hc75]; rw [if_neg hc81]; rw [if_neg hc87]
                                exact W.zret (v := 0) hx hb hr rfl (fun t ht hW => ⟨0, rfl, hR.symm, ht⟩) (fun q h => by cases h) d_Mo_isSign_95
                              · skip
                                have hl := lv_sub (l' := []) hl [] rfl
                                have hR : m_isSign a0 = k_isSign_90 := by rw [m_isSign]; rw [if_neg hc3]; rw [if_neg hc9]; rw [if_neg hc15]; rw [if_neg hc21]; rw [if_neg hc27]; rw [if_neg hc33]; rw [if_neg hc39]; rw [if_neg hc45]; rw [if_neg hc51]; rw [if_neg hc57]; rw [if_neg hc63]; rw [if_neg hc69]; rw [if_neg hc75]; rw [if_neg hc81]; rw [if_pos hc87]
                                exact nm_W3 hR (J90 ls hl)

theorem mw_48 : (.selects R_Mo y_Mo_here y_Mo_here : Cond) ∈ nn_gw := nn_at 48 (by decide +kernel) (by decide +kernel)
theorem mw_94 : (.initialized R_Mo : Cond) ∈ nn_gw := nn_at 94 (by decide +kernel) (by decide +kernel)
theorem mw_893 : (.fieldLink R_Mo 88 R_Mo "token" "I" : Cond) ∈ nn_gw := nn_at 893 (by decide +kernel) (by decide +kernel)
theorem mw_894 : (.fieldLink R_Mo 78 R_Mo "at" "I" : Cond) ∈ nn_gw := nn_at 894 (by decide +kernel) (by decide +kernel)
theorem mw_895 : (.fieldLink R_Mo 85 R_Mo "value" "I" : Cond) ∈ nn_gw := nn_at 895 (by decide +kernel) (by decide +kernel)
theorem mw_896 : (.fieldLink R_Mo 104 R_Mo "behind" "I" : Cond) ∈ nn_gw := nn_at 896 (by decide +kernel) (by decide +kernel)
theorem mw_1033 : (.methodLink R_Mo 81 y_Mo_here : Cond) ∈ nn_gw := nn_at 1033 (by decide +kernel) (by decide +kernel)
theorem mw_1035 : (.instanceMethod y_Mo_here : Cond) ∈ nn_gw := nn_at 1035 (by decide +kernel) (by decide +kernel)
set_option maxRecDepth 100000 in
theorem mw_1036 : (.code y_Mo_here b_Mo_here 2 (some .int) : Cond) ∈ nn_gw := nn_at 1036 (by rfl) (by decide +kernel)
theorem mw_1037 : (.methodLink R_Mo 91 y_Mo_isLetter : Cond) ∈ nn_gw := nn_at 1037 (by decide +kernel) (by decide +kernel)
theorem mw_1038 : (.static y_Mo_isLetter : Cond) ∈ nn_gw := nn_at 1038 (by decide +kernel) (by decide +kernel)
set_option maxRecDepth 100000 in
theorem mw_1039 : (.code y_Mo_isLetter b_Mo_isLetter 1 (some .boolean) : Cond) ∈ nn_gw := nn_at 1039 (by rfl) (by decide +kernel)
theorem mw_1040 : (.methodLink R_Mo 95 y_Mo_wordOf : Cond) ∈ nn_gw := nn_at 1040 (by decide +kernel) (by decide +kernel)
theorem mw_1041 : (.static y_Mo_wordOf : Cond) ∈ nn_gw := nn_at 1041 (by decide +kernel) (by decide +kernel)
set_option maxRecDepth 100000 in
theorem mw_1042 : (.code y_Mo_wordOf b_Mo_wordOf 1 (some .int) : Cond) ∈ nn_gw := nn_at 1042 (by rfl) (by decide +kernel)
theorem mw_1043 : (.methodLink R_Mo 98 y_Mo_isDigit : Cond) ∈ nn_gw := nn_at 1043 (by decide +kernel) (by decide +kernel)
theorem mw_1044 : (.static y_Mo_isDigit : Cond) ∈ nn_gw := nn_at 1044 (by decide +kernel) (by decide +kernel)
set_option maxRecDepth 100000 in
theorem mw_1045 : (.code y_Mo_isDigit b_Mo_isDigit 1 (some .boolean) : Cond) ∈ nn_gw := nn_at 1045 (by rfl) (by decide +kernel)
theorem mw_1046 : (.methodLink R_Mo 101 y_Mo_isSign : Cond) ∈ nn_gw := nn_at 1046 (by decide +kernel) (by decide +kernel)
theorem mw_1047 : (.static y_Mo_isSign : Cond) ∈ nn_gw := nn_at 1047 (by decide +kernel) (by decide +kernel)
set_option maxRecDepth 100000 in
theorem mw_1048 : (.code y_Mo_isSign b_Mo_isSign 1 (some .boolean) : Cond) ∈ nn_gw := nn_at 1048 (by rfl) (by decide +kernel)
theorem d_Mo_look_0 : decode b_Mo_look 0 = .ok (.iload_n 1, 1) := by decide +kernel
theorem d_Mo_look_1 : decode b_Mo_look 1 = .ok (.istore_n 2, 1) := by decide +kernel
theorem d_Mo_look_2 : decode b_Mo_look 2 = .ok (.iload_n 2, 1) := by decide +kernel
theorem d_Mo_look_3 : decode b_Mo_look 3 = .ok (.aload_n 0, 1) := by decide +kernel
theorem d_Mo_look_4 : decode b_Mo_look 4 = .ok (.getfield 75, 3) := by decide +kernel
theorem d_Mo_look_7 : decode b_Mo_look 7 = .ok (.if_icmp .ge 20, 3) := by decide +kernel
theorem d_Mo_look_10 : decode b_Mo_look 10 = .ok (.aload_n 0, 1) := by decide +kernel
theorem d_Mo_look_11 : decode b_Mo_look 11 = .ok (.getfield 7, 3) := by decide +kernel
theorem d_Mo_look_14 : decode b_Mo_look 14 = .ok (.iload_n 2, 1) := by decide +kernel
theorem d_Mo_look_15 : decode b_Mo_look 15 = .ok (.caload, 1) := by decide +kernel
theorem d_Mo_look_16 : decode b_Mo_look 16 = .ok (.bipush 32, 2) := by decide +kernel
theorem d_Mo_look_18 : decode b_Mo_look 18 = .ok (.if_icmp .ne 9, 3) := by decide +kernel
theorem d_Mo_look_21 : decode b_Mo_look 21 = .ok (.iinc 2 1, 3) := by decide +kernel
theorem d_Mo_look_24 : decode b_Mo_look 24 = .ok (.goto (-22), 3) := by decide +kernel
theorem d_Mo_look_27 : decode b_Mo_look 27 = .ok (.aload_n 0, 1) := by decide +kernel
theorem d_Mo_look_28 : decode b_Mo_look 28 = .ok (.iload_n 2, 1) := by decide +kernel
theorem d_Mo_look_29 : decode b_Mo_look 29 = .ok (.putfield 78, 3) := by decide +kernel
theorem d_Mo_look_32 : decode b_Mo_look 32 = .ok (.aload_n 0, 1) := by decide +kernel
theorem d_Mo_look_33 : decode b_Mo_look 33 = .ok (.iload_n 2, 1) := by decide +kernel
theorem d_Mo_look_34 : decode b_Mo_look 34 = .ok (.invokevirtual 81, 3) := by decide +kernel
theorem d_Mo_look_37 : decode b_Mo_look 37 = .ok (.istore_n 3, 1) := by decide +kernel
theorem d_Mo_look_38 : decode b_Mo_look 38 = .ok (.aload_n 0, 1) := by decide +kernel
theorem d_Mo_look_39 : decode b_Mo_look 39 = .ok (.iconst 0, 1) := by decide +kernel
theorem d_Mo_look_40 : decode b_Mo_look 40 = .ok (.putfield 85, 3) := by decide +kernel
theorem d_Mo_look_43 : decode b_Mo_look 43 = .ok (.iload_n 3, 1) := by decide +kernel
theorem d_Mo_look_44 : decode b_Mo_look 44 = .ok (.ifCond .ne 11, 3) := by decide +kernel
theorem d_Mo_look_47 : decode b_Mo_look 47 = .ok (.aload_n 0, 1) := by decide +kernel
theorem d_Mo_look_48 : decode b_Mo_look 48 = .ok (.iconst 0, 1) := by decide +kernel
theorem d_Mo_look_49 : decode b_Mo_look 49 = .ok (.putfield 88, 3) := by decide +kernel
theorem d_Mo_look_52 : decode b_Mo_look 52 = .ok (.goto 247, 3) := by decide +kernel
theorem d_Mo_look_55 : decode b_Mo_look 55 = .ok (.iload_n 3, 1) := by decide +kernel
theorem d_Mo_look_56 : decode b_Mo_look 56 = .ok (.invokestatic 91, 3) := by decide +kernel
theorem d_Mo_look_59 : decode b_Mo_look 59 = .ok (.ifCond .eq 98, 3) := by decide +kernel
theorem d_Mo_look_62 : decode b_Mo_look 62 = .ok (.iload_n 2, 1) := by decide +kernel
theorem d_Mo_look_63 : decode b_Mo_look 63 = .ok (.aload_n 0, 1) := by decide +kernel
theorem d_Mo_look_64 : decode b_Mo_look 64 = .ok (.getfield 75, 3) := by decide +kernel
theorem d_Mo_look_67 : decode b_Mo_look 67 = .ok (.if_icmp .ge 61, 3) := by decide +kernel
theorem d_Mo_look_70 : decode b_Mo_look 70 = .ok (.aload_n 0, 1) := by decide +kernel
theorem d_Mo_look_71 : decode b_Mo_look 71 = .ok (.getfield 7, 3) := by decide +kernel
theorem d_Mo_look_74 : decode b_Mo_look 74 = .ok (.iload_n 2, 1) := by decide +kernel
theorem d_Mo_look_75 : decode b_Mo_look 75 = .ok (.caload, 1) := by decide +kernel
theorem d_Mo_look_76 : decode b_Mo_look 76 = .ok (.invokestatic 91, 3) := by decide +kernel
theorem d_Mo_look_79 : decode b_Mo_look 79 = .ok (.ifCond .eq 49, 3) := by decide +kernel
theorem d_Mo_look_82 : decode b_Mo_look 82 = .ok (.aload_n 0, 1) := by decide +kernel
theorem d_Mo_look_83 : decode b_Mo_look 83 = .ok (.iload_n 2, 1) := by decide +kernel
theorem d_Mo_look_84 : decode b_Mo_look 84 = .ok (.aload_n 0, 1) := by decide +kernel
theorem d_Mo_look_85 : decode b_Mo_look 85 = .ok (.getfield 78, 3) := by decide +kernel
theorem d_Mo_look_88 : decode b_Mo_look 88 = .ok (.isub, 1) := by decide +kernel
theorem d_Mo_look_89 : decode b_Mo_look 89 = .ok (.bipush 6, 2) := by decide +kernel
theorem d_Mo_look_91 : decode b_Mo_look 91 = .ok (.if_icmp .ge 24, 3) := by decide +kernel
theorem d_Mo_look_94 : decode b_Mo_look 94 = .ok (.aload_n 0, 1) := by decide +kernel
theorem d_Mo_look_95 : decode b_Mo_look 95 = .ok (.getfield 85, 3) := by decide +kernel
theorem d_Mo_look_98 : decode b_Mo_look 98 = .ok (.iconst 5, 1) := by decide +kernel
theorem d_Mo_look_99 : decode b_Mo_look 99 = .ok (.ishl, 1) := by decide +kernel
theorem d_Mo_look_100 : decode b_Mo_look 100 = .ok (.aload_n 0, 1) := by decide +kernel
theorem d_Mo_look_101 : decode b_Mo_look 101 = .ok (.getfield 7, 3) := by decide +kernel
theorem d_Mo_look_104 : decode b_Mo_look 104 = .ok (.iload_n 2, 1) := by decide +kernel
theorem d_Mo_look_105 : decode b_Mo_look 105 = .ok (.caload, 1) := by decide +kernel
theorem d_Mo_look_106 : decode b_Mo_look 106 = .ok (.bipush 97, 2) := by decide +kernel
theorem d_Mo_look_108 : decode b_Mo_look 108 = .ok (.isub, 1) := by decide +kernel
theorem d_Mo_look_109 : decode b_Mo_look 109 = .ok (.iconst 1, 1) := by decide +kernel
theorem d_Mo_look_110 : decode b_Mo_look 110 = .ok (.iadd, 1) := by decide +kernel
theorem d_Mo_look_111 : decode b_Mo_look 111 = .ok (.ior, 1) := by decide +kernel
theorem d_Mo_look_112 : decode b_Mo_look 112 = .ok (.goto 7, 3) := by decide +kernel
theorem d_Mo_look_115 : decode b_Mo_look 115 = .ok (.aload_n 0, 1) := by decide +kernel
theorem d_Mo_look_116 : decode b_Mo_look 116 = .ok (.getfield 85, 3) := by decide +kernel
theorem d_Mo_look_119 : decode b_Mo_look 119 = .ok (.putfield 85, 3) := by decide +kernel
theorem d_Mo_look_122 : decode b_Mo_look 122 = .ok (.iinc 2 1, 3) := by decide +kernel
theorem d_Mo_look_125 : decode b_Mo_look 125 = .ok (.goto (-63), 3) := by decide +kernel
theorem d_Mo_look_128 : decode b_Mo_look 128 = .ok (.aload_n 0, 1) := by decide +kernel
theorem d_Mo_look_129 : decode b_Mo_look 129 = .ok (.iload_n 2, 1) := by decide +kernel
theorem d_Mo_look_130 : decode b_Mo_look 130 = .ok (.aload_n 0, 1) := by decide +kernel
theorem d_Mo_look_131 : decode b_Mo_look 131 = .ok (.getfield 78, 3) := by decide +kernel
theorem d_Mo_look_134 : decode b_Mo_look 134 = .ok (.isub, 1) := by decide +kernel
theorem d_Mo_look_135 : decode b_Mo_look 135 = .ok (.bipush 6, 2) := by decide +kernel
theorem d_Mo_look_137 : decode b_Mo_look 137 = .ok (.if_icmp .le 7, 3) := by decide +kernel
theorem d_Mo_look_140 : decode b_Mo_look 140 = .ok (.iconst 1, 1) := by decide +kernel
theorem d_Mo_look_141 : decode b_Mo_look 141 = .ok (.goto 10, 3) := by decide +kernel
theorem d_Mo_look_144 : decode b_Mo_look 144 = .ok (.aload_n 0, 1) := by decide +kernel
theorem d_Mo_look_145 : decode b_Mo_look 145 = .ok (.getfield 85, 3) := by decide +kernel
theorem d_Mo_look_148 : decode b_Mo_look 148 = .ok (.invokestatic 95, 3) := by decide +kernel
theorem d_Mo_look_151 : decode b_Mo_look 151 = .ok (.putfield 88, 3) := by decide +kernel
theorem d_Mo_look_154 : decode b_Mo_look 154 = .ok (.goto 145, 3) := by decide +kernel
theorem d_Mo_look_157 : decode b_Mo_look 157 = .ok (.iload_n 3, 1) := by decide +kernel
theorem d_Mo_look_158 : decode b_Mo_look 158 = .ok (.invokestatic 98, 3) := by decide +kernel
theorem d_Mo_look_161 : decode b_Mo_look 161 = .ok (.ifCond .eq 89, 3) := by decide +kernel
theorem d_Mo_look_164 : decode b_Mo_look 164 = .ok (.iload_n 2, 1) := by decide +kernel
theorem d_Mo_look_165 : decode b_Mo_look 165 = .ok (.aload_n 0, 1) := by decide +kernel
theorem d_Mo_look_166 : decode b_Mo_look 166 = .ok (.getfield 75, 3) := by decide +kernel
theorem d_Mo_look_169 : decode b_Mo_look 169 = .ok (.if_icmp .ge 59, 3) := by decide +kernel
theorem d_Mo_look_172 : decode b_Mo_look 172 = .ok (.aload_n 0, 1) := by decide +kernel
theorem d_Mo_look_173 : decode b_Mo_look 173 = .ok (.getfield 7, 3) := by decide +kernel
theorem d_Mo_look_176 : decode b_Mo_look 176 = .ok (.iload_n 2, 1) := by decide +kernel
theorem d_Mo_look_177 : decode b_Mo_look 177 = .ok (.caload, 1) := by decide +kernel
theorem d_Mo_look_178 : decode b_Mo_look 178 = .ok (.invokestatic 98, 3) := by decide +kernel
theorem d_Mo_look_181 : decode b_Mo_look 181 = .ok (.ifCond .eq 47, 3) := by decide +kernel
theorem d_Mo_look_184 : decode b_Mo_look 184 = .ok (.aload_n 0, 1) := by decide +kernel
theorem d_Mo_look_185 : decode b_Mo_look 185 = .ok (.iload_n 2, 1) := by decide +kernel
theorem d_Mo_look_186 : decode b_Mo_look 186 = .ok (.aload_n 0, 1) := by decide +kernel
theorem d_Mo_look_187 : decode b_Mo_look 187 = .ok (.getfield 78, 3) := by decide +kernel
theorem d_Mo_look_190 : decode b_Mo_look 190 = .ok (.isub, 1) := by decide +kernel
theorem d_Mo_look_191 : decode b_Mo_look 191 = .ok (.iconst 4, 1) := by decide +kernel
theorem d_Mo_look_192 : decode b_Mo_look 192 = .ok (.if_icmp .ge 23, 3) := by decide +kernel
theorem d_Mo_look_195 : decode b_Mo_look 195 = .ok (.bipush 10, 2) := by decide +kernel
theorem d_Mo_look_197 : decode b_Mo_look 197 = .ok (.aload_n 0, 1) := by decide +kernel
theorem d_Mo_look_198 : decode b_Mo_look 198 = .ok (.getfield 85, 3) := by decide +kernel
theorem d_Mo_look_201 : decode b_Mo_look 201 = .ok (.imul, 1) := by decide +kernel
theorem d_Mo_look_202 : decode b_Mo_look 202 = .ok (.aload_n 0, 1) := by decide +kernel
theorem d_Mo_look_203 : decode b_Mo_look 203 = .ok (.getfield 7, 3) := by decide +kernel
theorem d_Mo_look_206 : decode b_Mo_look 206 = .ok (.iload_n 2, 1) := by decide +kernel
theorem d_Mo_look_207 : decode b_Mo_look 207 = .ok (.caload, 1) := by decide +kernel
theorem d_Mo_look_208 : decode b_Mo_look 208 = .ok (.iadd, 1) := by decide +kernel
theorem d_Mo_look_209 : decode b_Mo_look 209 = .ok (.bipush 48, 2) := by decide +kernel
theorem d_Mo_look_211 : decode b_Mo_look 211 = .ok (.isub, 1) := by decide +kernel
theorem d_Mo_look_212 : decode b_Mo_look 212 = .ok (.goto 7, 3) := by decide +kernel
theorem d_Mo_look_215 : decode b_Mo_look 215 = .ok (.aload_n 0, 1) := by decide +kernel
theorem d_Mo_look_216 : decode b_Mo_look 216 = .ok (.getfield 85, 3) := by decide +kernel
theorem d_Mo_look_219 : decode b_Mo_look 219 = .ok (.putfield 85, 3) := by decide +kernel
theorem d_Mo_look_222 : decode b_Mo_look 222 = .ok (.iinc 2 1, 3) := by decide +kernel
theorem d_Mo_look_225 : decode b_Mo_look 225 = .ok (.goto (-61), 3) := by decide +kernel
theorem d_Mo_look_228 : decode b_Mo_look 228 = .ok (.aload_n 0, 1) := by decide +kernel
theorem d_Mo_look_229 : decode b_Mo_look 229 = .ok (.iload_n 2, 1) := by decide +kernel
theorem d_Mo_look_230 : decode b_Mo_look 230 = .ok (.aload_n 0, 1) := by decide +kernel
theorem d_Mo_look_231 : decode b_Mo_look 231 = .ok (.getfield 78, 3) := by decide +kernel
theorem d_Mo_look_234 : decode b_Mo_look 234 = .ok (.isub, 1) := by decide +kernel
theorem d_Mo_look_235 : decode b_Mo_look 235 = .ok (.iconst 4, 1) := by decide +kernel
theorem d_Mo_look_236 : decode b_Mo_look 236 = .ok (.if_icmp .le 7, 3) := by decide +kernel
theorem d_Mo_look_239 : decode b_Mo_look 239 = .ok (.iconst 1, 1) := by decide +kernel
theorem d_Mo_look_240 : decode b_Mo_look 240 = .ok (.goto 4, 3) := by decide +kernel
theorem d_Mo_look_243 : decode b_Mo_look 243 = .ok (.iconst 3, 1) := by decide +kernel
theorem d_Mo_look_244 : decode b_Mo_look 244 = .ok (.putfield 88, 3) := by decide +kernel
theorem d_Mo_look_247 : decode b_Mo_look 247 = .ok (.goto 52, 3) := by decide +kernel
theorem d_Mo_look_250 : decode b_Mo_look 250 = .ok (.iload_n 3, 1) := by decide +kernel
theorem d_Mo_look_251 : decode b_Mo_look 251 = .ok (.bipush 58, 2) := by decide +kernel
theorem d_Mo_look_253 : decode b_Mo_look 253 = .ok (.if_icmp .ne 27, 3) := by decide +kernel
theorem d_Mo_look_256 : decode b_Mo_look 256 = .ok (.aload_n 0, 1) := by decide +kernel
theorem d_Mo_look_257 : decode b_Mo_look 257 = .ok (.iload_n 2, 1) := by decide +kernel
theorem d_Mo_look_258 : decode b_Mo_look 258 = .ok (.iconst 1, 1) := by decide +kernel
theorem d_Mo_look_259 : decode b_Mo_look 259 = .ok (.iadd, 1) := by decide +kernel
theorem d_Mo_look_260 : decode b_Mo_look 260 = .ok (.invokevirtual 81, 3) := by decide +kernel
theorem d_Mo_look_263 : decode b_Mo_look 263 = .ok (.bipush 61, 2) := by decide +kernel
theorem d_Mo_look_265 : decode b_Mo_look 265 = .ok (.if_icmp .ne 15, 3) := by decide +kernel
theorem d_Mo_look_268 : decode b_Mo_look 268 = .ok (.aload_n 0, 1) := by decide +kernel
theorem d_Mo_look_269 : decode b_Mo_look 269 = .ok (.bipush 127, 2) := by decide +kernel
theorem d_Mo_look_271 : decode b_Mo_look 271 = .ok (.putfield 88, 3) := by decide +kernel
theorem d_Mo_look_274 : decode b_Mo_look 274 = .ok (.iinc 2 2, 3) := by decide +kernel
theorem d_Mo_look_277 : decode b_Mo_look 277 = .ok (.goto 22, 3) := by decide +kernel
theorem d_Mo_look_280 : decode b_Mo_look 280 = .ok (.aload_n 0, 1) := by decide +kernel
theorem d_Mo_look_281 : decode b_Mo_look 281 = .ok (.iload_n 3, 1) := by decide +kernel
theorem d_Mo_look_282 : decode b_Mo_look 282 = .ok (.invokestatic 101, 3) := by decide +kernel
theorem d_Mo_look_285 : decode b_Mo_look 285 = .ok (.ifCond .eq 7, 3) := by decide +kernel
theorem d_Mo_look_288 : decode b_Mo_look 288 = .ok (.iload_n 3, 1) := by decide +kernel
theorem d_Mo_look_289 : decode b_Mo_look 289 = .ok (.goto 4, 3) := by decide +kernel
theorem d_Mo_look_292 : decode b_Mo_look 292 = .ok (.iconst 1, 1) := by decide +kernel
theorem d_Mo_look_293 : decode b_Mo_look 293 = .ok (.putfield 88, 3) := by decide +kernel
theorem d_Mo_look_296 : decode b_Mo_look 296 = .ok (.iinc 2 1, 3) := by decide +kernel
theorem d_Mo_look_299 : decode b_Mo_look 299 = .ok (.aload_n 0, 1) := by decide +kernel
theorem d_Mo_look_300 : decode b_Mo_look 300 = .ok (.iload_n 2, 1) := by decide +kernel
theorem d_Mo_look_301 : decode b_Mo_look 301 = .ok (.putfield 104, 3) := by decide +kernel
theorem d_Mo_look_304 : decode b_Mo_look 304 = .ok (.return_, 1) := by decide +kernel

def k_look_299 (x : nM) (v2 : Int32) : nM := (nm_f x 6 v2)
def p_look_299 (x : nM) (v2 : Int32) : Prop := True
def k_look_293 (x : nM) (v2 : Int32) (w0 : Int32) : nM := k_look_299 (nm_f x 3 w0) (v2 + 1)
def p_look_293 (x : nM) (v2 : Int32) (w0 : Int32) : Prop := p_look_299 (nm_f x 3 w0) (v2 + 1)
def k_look_280 (x : nM) (v2 : Int32) (v3 : Int32) : nM := (if m_isSign v3 = 0 then k_look_293 x v2 1 else k_look_293 x v2 v3)
def p_look_280 (x : nM) (v2 : Int32) (v3 : Int32) : Prop := ((m_isSign v3 = 0 → p_look_293 x v2 1) ∧ (¬ (m_isSign v3 = 0) → p_look_293 x v2 v3))
def k_look_244 (x : nM) (v2 : Int32) (w0 : Int32) : nM := k_look_299 (nm_f x 3 w0) v2
def p_look_244 (x : nM) (v2 : Int32) (w0 : Int32) : Prop := p_look_299 (nm_f x 3 w0) v2
def k_look_228 (x : nM) (v2 : Int32) : nM := (if v2 - (x.1 4) ≤ 4 then k_look_244 x v2 3 else k_look_244 x v2 1)
def p_look_228 (x : nM) (v2 : Int32) : Prop := ((v2 - (x.1 4) ≤ 4 → p_look_244 x v2 3) ∧ (¬ (v2 - (x.1 4) ≤ 4) → p_look_244 x v2 1))
def k_look_164 : Nat → nM → Int32 → nM
  | 0, x, v2 => x
  | n + 1, x, v2 => (if x.1 1 ≤ v2 then k_look_228 x v2 else (if m_isDigit (nm_g x 2 v2) = 0 then k_look_228 x v2 else (if 4 ≤ v2 - (x.1 4) then k_look_164 n (nm_f x 5 (x.1 5)) (v2 + 1) else k_look_164 n (nm_f x 5 (((10 * (x.1 5)) + (nm_g x 2 v2)) - 48)) (v2 + 1))))
def p_look_164 : Nat → nM → Int32 → Prop
  | 0, _, _ => False
  | n + 1, x, v2 => ((x.1 1 ≤ v2 → p_look_228 x v2) ∧ (¬ (x.1 1 ≤ v2) → vp_in v2 180 ∧ ((m_isDigit (nm_g x 2 v2) = 0 → p_look_228 x v2) ∧ (¬ (m_isDigit (nm_g x 2 v2) = 0) → ((4 ≤ v2 - (x.1 4) → p_look_164 n (nm_f x 5 (x.1 5)) (v2 + 1)) ∧ (¬ (4 ≤ v2 - (x.1 4)) → vp_in v2 180 ∧ p_look_164 n (nm_f x 5 (((10 * (x.1 5)) + (nm_g x 2 v2)) - 48)) (v2 + 1)))))))
def k_look_151 (x : nM) (v2 : Int32) (w0 : Int32) : nM := k_look_299 (nm_f x 3 w0) v2
def p_look_151 (x : nM) (v2 : Int32) (w0 : Int32) : Prop := p_look_299 (nm_f x 3 w0) v2
def k_look_128 (x : nM) (v2 : Int32) : nM := (if v2 - (x.1 4) ≤ 6 then k_look_151 x v2 (m_wordOf (x.1 5)) else k_look_151 x v2 1)
def p_look_128 (x : nM) (v2 : Int32) : Prop := ((v2 - (x.1 4) ≤ 6 → p_look_151 x v2 (m_wordOf (x.1 5))) ∧ (¬ (v2 - (x.1 4) ≤ 6) → p_look_151 x v2 1))
def k_look_62 : Nat → nM → Int32 → nM
  | 0, x, v2 => x
  | n + 1, x, v2 => (if x.1 1 ≤ v2 then k_look_128 x v2 else (if m_isLetter (nm_g x 2 v2) = 0 then k_look_128 x v2 else (if 6 ≤ v2 - (x.1 4) then k_look_62 n (nm_f x 5 (x.1 5)) (v2 + 1) else k_look_62 n (nm_f x 5 (((x.1 5) <<< (5 &&& 31)) ||| (((nm_g x 2 v2) - 97) + 1))) (v2 + 1))))
def p_look_62 : Nat → nM → Int32 → Prop
  | 0, _, _ => False
  | n + 1, x, v2 => ((x.1 1 ≤ v2 → p_look_128 x v2) ∧ (¬ (x.1 1 ≤ v2) → vp_in v2 180 ∧ ((m_isLetter (nm_g x 2 v2) = 0 → p_look_128 x v2) ∧ (¬ (m_isLetter (nm_g x 2 v2) = 0) → ((6 ≤ v2 - (x.1 4) → p_look_62 n (nm_f x 5 (x.1 5)) (v2 + 1)) ∧ (¬ (6 ≤ v2 - (x.1 4)) → vp_in v2 180 ∧ p_look_62 n (nm_f x 5 (((x.1 5) <<< (5 &&& 31)) ||| (((nm_g x 2 v2) - 97) + 1))) (v2 + 1)))))))
def k_look_27 (x : nM) (v2 : Int32) : nM := (if m_here (nm_f x 4 v2) v2 = 0 then k_look_299 (nm_f (nm_f (nm_f x 4 v2) 5 0) 3 0) v2 else (if m_isLetter (m_here (nm_f x 4 v2) v2) = 0 then (if m_isDigit (m_here (nm_f x 4 v2) v2) = 0 then (if m_here (nm_f x 4 v2) v2 = 58 then (if m_here (nm_f (nm_f x 4 v2) 5 0) (v2 + 1) = 61 then k_look_299 (nm_f (nm_f (nm_f x 4 v2) 5 0) 3 127) (v2 + 2) else k_look_280 (nm_f (nm_f x 4 v2) 5 0) v2 (m_here (nm_f x 4 v2) v2)) else k_look_280 (nm_f (nm_f x 4 v2) 5 0) v2 (m_here (nm_f x 4 v2) v2)) else k_look_164 300 (nm_f (nm_f x 4 v2) 5 0) v2) else k_look_62 300 (nm_f (nm_f x 4 v2) 5 0) v2))
def p_look_27 (x : nM) (v2 : Int32) : Prop := o_here (nm_f x 4 v2) v2 ∧ ((m_here (nm_f x 4 v2) v2 = 0 → p_look_299 (nm_f (nm_f (nm_f x 4 v2) 5 0) 3 0) v2) ∧ (¬ (m_here (nm_f x 4 v2) v2 = 0) → ((m_isLetter (m_here (nm_f x 4 v2) v2) = 0 → ((m_isDigit (m_here (nm_f x 4 v2) v2) = 0 → ((m_here (nm_f x 4 v2) v2 = 58 → o_here (nm_f (nm_f x 4 v2) 5 0) (v2 + 1) ∧ ((m_here (nm_f (nm_f x 4 v2) 5 0) (v2 + 1) = 61 → p_look_299 (nm_f (nm_f (nm_f x 4 v2) 5 0) 3 127) (v2 + 2)) ∧ (¬ (m_here (nm_f (nm_f x 4 v2) 5 0) (v2 + 1) = 61) → p_look_280 (nm_f (nm_f x 4 v2) 5 0) v2 (m_here (nm_f x 4 v2) v2)))) ∧ (¬ (m_here (nm_f x 4 v2) v2 = 58) → p_look_280 (nm_f (nm_f x 4 v2) 5 0) v2 (m_here (nm_f x 4 v2) v2)))) ∧ (¬ (m_isDigit (m_here (nm_f x 4 v2) v2) = 0) → p_look_164 300 (nm_f (nm_f x 4 v2) 5 0) v2))) ∧ (¬ (m_isLetter (m_here (nm_f x 4 v2) v2) = 0) → p_look_62 300 (nm_f (nm_f x 4 v2) 5 0) v2))))
def k_look_2 : Nat → nM → Int32 → nM
  | 0, x, v2 => x
  | n + 1, x, v2 => (if x.1 1 ≤ v2 then k_look_27 x v2 else (if nm_g x 2 v2 = 32 then k_look_2 n x (v2 + 1) else k_look_27 x v2))
def p_look_2 : Nat → nM → Int32 → Prop
  | 0, _, _ => False
  | n + 1, x, v2 => ((x.1 1 ≤ v2 → p_look_27 x v2) ∧ (¬ (x.1 1 ≤ v2) → vp_in v2 180 ∧ ((nm_g x 2 v2 = 32 → p_look_2 n x (v2 + 1)) ∧ (¬ (nm_g x 2 v2 = 32) → p_look_27 x v2))))
def m_look (x : nM) (a1 : Int32) : nM := k_look_2 300 x a1
def o_look (x : nM) (a1 : Int32) : Prop := p_look_2 300 x a1
set_option maxHeartbeats 4000000 in
set_option maxRecDepth 100000 in
theorem t_look (l : Launch) (G : nn_G) (sz : Nat) (mo : Nat) (ad : Nat → Nat) (x : nM) (a1 : Int32) (hk : o_look x a1) : Met l y_Mo_look w_Mo_look ({ frames := 1, cells := 0, slots := 0, locals := 21 }) (nn_P G [.ref mo, .int a1] (nm_W G mo ad x) sz) (nm_Qv G mo ad (m_look x a1) (va_A (nm_W G mo ad x) sz)) 0 0 (va_A (nm_W G mo ad x) sz) := by
  refine Met.ofW (cc := b_Mo_look) (maxL := 4) (ret := none) (by decide) rfl ?_
  intro p e s m args below meth c s₁ B hml hv
  obtain ⟨rfl, hsz, hP, hK, hD0, hN⟩ := hv
  have hx := B.exec
  have hb := B.bytes
  have hr := B.returns
  have hts := atoms_spec (ws := w_Mo_look) B.pre
  have hg : ∀ w ∈ nn_gw, w.before _ s = true := fun w h => hts w (List.mem_cons_of_mem _ h)
  have hown : s.vm.findClass R_Mo = some m.cls := findClass_of_methodNamed B.named
  subst hsz
  have hD := hD0.self (sz := s.heap.size)
  generalize hAe : va_A (nm_W G mo ad x) s.heap.size = A at hD ⊢
  have hA : ∀ q : Nat, s.heap.size ≤ q → A q := fun q h => by rw [← hAe]; exact Or.inr h
  clear hAe
  have hS : va_S A s.heap s.heap [] := va_S.rf
  have hP : va_P G.1 nn_cls (nm_W G mo ad x) s.heap := hP
  have hl := lv_entry ([.ref mo, .int a1]) (n := 4) (Nat.le_of_ble_eq_true rfl)
  rw [lg_entry_eq]
  generalize (lg_sl ([.ref mo, .int a1]) ++ List.replicate (4 - (lg_sl ([.ref mo, .int a1])).length) Slot.unset).toArray = ls at hl ⊢
  have hl : lv_has ls 4 [(0, .ref mo), (1, .int a1)] := hl
  have J299 : ∀ (x : nM) (v2 : Int32) (ls : Array Slot) (H : Heap) (locs : List Loc), p_look_299 x v2 → lv_has ls 4 [(0, .ref mo), (2, .int v2)] → va_P G.1 nn_cls (nm_W G mo ad x) H → va_D A (nm_W G mo ad x) → va_S A s.heap H locs → W p l e (headSpec w_Mo_look ({ frames := 1, cells := 0, slots := 0, locals := 21 })).room s m [.ref mo, .int a1].toArray below meth c H locs 0 0 (MQ below (nm_Qv G mo ad (k_look_299 x v2) A) [.ref mo, .int a1].toArray s 0 0 A) (F0 m 299 ls []) := by
    intro x v2 ls H locs hk hl hP hD hS
    unfold p_look_299 at hk
    refine lv_aload_n hx hb d_Mo_look_299 rfl (lv_at hl 0 rfl) ?_
    refine lv_iload_n hx hb d_Mo_look_300 rfl (lv_at hl 1 rfl) ?_
    refine nm_put hx hb hg hown hK hP hD hS 6 (by decide) (by decide) (by decide) (hg _ mw_896) d_Mo_look_301 (fun H locs hP hD hS => ?_)
    have hR : k_look_299 x v2 = nm_f x 6 v2 := by rw [k_look_299]
    refine nm_W1 hR ?_
    exact W.vret hx hb hr (fun t ht hW => ⟨⟨(), rfl, trivial, ⟨by rw [ht]; exact hP, hD⟩⟩, hS.F ht⟩) hS.2.2 d_Mo_look_304
  have J293 : ∀ (x : nM) (v2 : Int32) (w0 : Int32) (ls : Array Slot) (H : Heap) (locs : List Loc), p_look_293 x v2 w0 → lv_has ls 4 [(0, .ref mo), (2, .int v2)] → va_P G.1 nn_cls (nm_W G mo ad x) H → va_D A (nm_W G mo ad x) → va_S A s.heap H locs → W p l e (headSpec w_Mo_look ({ frames := 1, cells := 0, slots := 0, locals := 21 })).room s m [.ref mo, .int a1].toArray below meth c H locs 0 0 (MQ below (nm_Qv G mo ad (k_look_293 x v2 w0) A) [.ref mo, .int a1].toArray s 0 0 A) (F0 m 293 ls [.int w0, .ref mo]) := by
    intro x v2 w0 ls H locs hk hl hP hD hS
    unfold p_look_293 at hk
    refine nm_put hx hb hg hown hK hP hD hS 3 (by decide) (by decide) (by decide) (hg _ mw_893) d_Mo_look_293 (fun H locs hP hD hS => ?_)
    refine lv_iinc (k := 1) (v := v2 + 1) (lv' := [(2, .int (v2 + 1)), (0, .ref mo)]) hx hb d_Mo_look_296 hl rfl (rfl) (by decide) rfl (fun ls hl => ?_)
    have hl := lv_sub (l' := [(0, .ref mo), (2, .int (v2 + 1))]) hl [1, 0] rfl
    have hR : k_look_293 x v2 w0 = k_look_299 (nm_f x 3 w0) (v2 + 1) := by rw [k_look_293]
    exact nm_W1 hR (J299 (nm_f x 3 w0) (v2 + 1) ls _ _ hk hl hP hD hS)
  have J280 : ∀ (x : nM) (v2 : Int32) (v3 : Int32) (ls : Array Slot) (H : Heap) (locs : List Loc), p_look_280 x v2 v3 → lv_has ls 4 [(0, .ref mo), (2, .int v2), (3, .int v3)] → va_P G.1 nn_cls (nm_W G mo ad x) H → va_D A (nm_W G mo ad x) → va_S A s.heap H locs → W p l e (headSpec w_Mo_look ({ frames := 1, cells := 0, slots := 0, locals := 21 })).room s m [.ref mo, .int a1].toArray below meth c H locs 0 0 (MQ below (nm_Qv G mo ad (k_look_280 x v2 v3) A) [.ref mo, .int a1].toArray s 0 0 A) (F0 m 280 ls []) := by
    intro x v2 v3 ls H locs hk hl hP hD hS
    unfold p_look_280 at hk
    refine lv_aload_n hx hb d_Mo_look_280 rfl (lv_at hl 0 rfl) ?_
    refine lv_iload_n hx hb d_Mo_look_281 rfl (lv_at hl 2 rfl) ?_
    refine vp_callSi (va_Run.run (va_runS (As := [.int v3]) (rest := [.ref mo]) ⟨hx, hb, hml, hown, hts⟩ (t_isSign l G _ v3) (va_cwS 1 hts (nn_gS mw_1048 mw_1046 mw_1047 mw_94) rfl rfl rfl (by decide +kernel) ⟨Nat.le_of_ble_eq_true rfl, Nat.le_of_ble_eq_true rfl⟩) (nn_preS nb_P0 (nb_D0 (A := fun _ => True)) hK hN) rfl rfl hl.1 rfl (lv_room (Nat.le_of_ble_eq_true rfl)) d_Mo_look_282 ⟨Nat.le_of_ble_eq_true rfl, Nat.le_of_ble_eq_true rfl⟩)) (fun r1 er1 => ?_)
    subst er1
    refine lv_if_eq (tgt := 292) hx hb d_Mo_look_285 rfl (fun hc285 => ?_) (fun hc285 => ?_)
    · skip
      have hk := hk.1 hc285
      refine lv_iconst (v := 1) hx hb d_Mo_look_292 (by decide) ?_
      have hl := lv_sub (l' := [(0, .ref mo), (2, .int v2)]) hl [0, 1] rfl
      have hR : k_look_280 x v2 v3 = k_look_293 x v2 1 := by rw [k_look_280]; rw [if_pos hc285]
      exact nm_W1 hR (J293 x v2 1 ls _ _ hk hl hP hD hS)
    · skip
      have hk := hk.2 hc285
      refine lv_iload_n hx hb d_Mo_look_288 rfl (lv_at hl 2 rfl) ?_
      refine lv_goto (tgt := 293) hx hb d_Mo_look_289 rfl ?_
      have hl := lv_sub (l' := [(0, .ref mo), (2, .int v2)]) hl [0, 1] rfl
      have hR : k_look_280 x v2 v3 = k_look_293 x v2 v3 := by rw [k_look_280]; rw [if_neg hc285]
      exact nm_W1 hR (J293 x v2 v3 ls _ _ hk hl hP hD hS)
  have J244 : ∀ (x : nM) (v2 : Int32) (w0 : Int32) (ls : Array Slot) (H : Heap) (locs : List Loc), p_look_244 x v2 w0 → lv_has ls 4 [(0, .ref mo), (2, .int v2)] → va_P G.1 nn_cls (nm_W G mo ad x) H → va_D A (nm_W G mo ad x) → va_S A s.heap H locs → W p l e (headSpec w_Mo_look ({ frames := 1, cells := 0, slots := 0, locals := 21 })).room s m [.ref mo, .int a1].toArray below meth c H locs 0 0 (MQ below (nm_Qv G mo ad (k_look_244 x v2 w0) A) [.ref mo, .int a1].toArray s 0 0 A) (F0 m 244 ls [.int w0, .ref mo]) := by
    intro x v2 w0 ls H locs hk hl hP hD hS
    unfold p_look_244 at hk
    refine nm_put hx hb hg hown hK hP hD hS 3 (by decide) (by decide) (by decide) (hg _ mw_893) d_Mo_look_244 (fun H locs hP hD hS => ?_)
    refine lv_goto (tgt := 299) hx hb d_Mo_look_247 rfl ?_
    have hl := lv_sub (l' := [(0, .ref mo), (2, .int v2)]) hl [0, 1] rfl
    have hR : k_look_244 x v2 w0 = k_look_299 (nm_f x 3 w0) v2 := by rw [k_look_244]
    exact nm_W1 hR (J299 (nm_f x 3 w0) v2 ls _ _ hk hl hP hD hS)
  have J228 : ∀ (x : nM) (v2 : Int32) (ls : Array Slot) (H : Heap) (locs : List Loc), p_look_228 x v2 → lv_has ls 4 [(0, .ref mo), (2, .int v2)] → va_P G.1 nn_cls (nm_W G mo ad x) H → va_D A (nm_W G mo ad x) → va_S A s.heap H locs → W p l e (headSpec w_Mo_look ({ frames := 1, cells := 0, slots := 0, locals := 21 })).room s m [.ref mo, .int a1].toArray below meth c H locs 0 0 (MQ below (nm_Qv G mo ad (k_look_228 x v2) A) [.ref mo, .int a1].toArray s 0 0 A) (F0 m 228 ls []) := by
    intro x v2 ls H locs hk hl hP hD hS
    unfold p_look_228 at hk
    refine lv_aload_n hx hb d_Mo_look_228 rfl (lv_at hl 0 rfl) ?_
    refine lv_iload_n hx hb d_Mo_look_229 rfl (lv_at hl 1 rfl) ?_
    refine lv_aload_n hx hb d_Mo_look_230 rfl (lv_at hl 0 rfl) ?_
    refine nm_get hx hb hg hown hK hP 4 (by decide) (by decide) (hg _ mw_894) d_Mo_look_231 ?_
    refine lv_isub hx hb d_Mo_look_234 ?_
    refine lv_iconst (v := 4) hx hb d_Mo_look_235 (by decide) ?_
    refine lv_icmp_le (tgt := 243) hx hb d_Mo_look_236 rfl (fun hc236 => ?_) (fun hc236 => ?_)
    · skip
      have hk := hk.1 hc236
      refine lv_iconst (v := 3) hx hb d_Mo_look_243 (by decide) ?_
      have hl := lv_sub (l' := [(0, .ref mo), (2, .int v2)]) hl [0, 1] rfl
      have hR : k_look_228 x v2 = k_look_244 x v2 3 := by rw [k_look_228]; rw [if_pos hc236]
      exact nm_W1 hR (J244 x v2 3 ls _ _ hk hl hP hD hS)
    · skip
      have hk := hk.2 hc236
      refine lv_iconst (v := 1) hx hb d_Mo_look_239 (by decide) ?_
      refine lv_goto (tgt := 244) hx hb d_Mo_look_240 rfl ?_
      have hl := lv_sub (l' := [(0, .ref mo), (2, .int v2)]) hl [0, 1] rfl
      have hR : k_look_228 x v2 = k_look_244 x v2 1 := by rw [k_look_228]; rw [if_neg hc236]
      exact nm_W1 hR (J244 x v2 1 ls _ _ hk hl hP hD hS)
  have J164 : ∀ (n : Nat) (x : nM) (v2 : Int32) (ls : Array Slot) (H : Heap) (locs : List Loc), p_look_164 n x v2 → lv_has ls 4 [(0, .ref mo), (2, .int v2)] → va_P G.1 nn_cls (nm_W G mo ad x) H → va_D A (nm_W G mo ad x) → va_S A s.heap H locs → W p l e (headSpec w_Mo_look ({ frames := 1, cells := 0, slots := 0, locals := 21 })).room s m [.ref mo, .int a1].toArray below meth c H locs 0 0 (MQ below (nm_Qv G mo ad (k_look_164 n x v2) A) [.ref mo, .int a1].toArray s 0 0 A) (F0 m 164 ls []) := by
    intro n
    induction n with
    | zero =>
      intro x v2 ls H locs hk
      exact (show False from hk).elim
    | succ n ih =>
      intro x v2 ls H locs hk hl hP hD hS
      unfold p_look_164 at hk
      refine lv_iload_n hx hb d_Mo_look_164 rfl (lv_at hl 1 rfl) ?_
      refine lv_aload_n hx hb d_Mo_look_165 rfl (lv_at hl 0 rfl) ?_
      refine nm_get hx hb hg hown hK hP 1 (by decide) (by decide) (hg _ mw_891) d_Mo_look_166 ?_
      refine lv_icmp_ge (tgt := 228) hx hb d_Mo_look_169 rfl (fun hc169 => ?_) (fun hc169 => ?_)
      · skip
        have hk := hk.1 hc169
        have hl := lv_sub (l' := [(0, .ref mo), (2, .int v2)]) hl [0, 1] rfl
        have hR : k_look_164 (n + 1) x v2 = k_look_228 x v2 := by rw [k_look_164]; rw [if_pos hc169]
        exact nm_W1 hR (J228 x v2 ls _ _ hk hl hP hD hS)
      · skip
        have hk := hk.2 hc169
        refine lv_aload_n hx hb d_Mo_look_172 rfl (lv_at hl 0 rfl) ?_
        refine nm_getA hx hb hg hown hK hP 2 (by decide) (by decide) (hg _ mw_892) d_Mo_look_173 ?_
        refine lv_iload_n hx hb d_Mo_look_176 rfl (lv_at hl 1 rfl) ?_
        obtain ⟨hi, hk⟩ := hk
        refine nm_ldc hx hb hK hP hi d_Mo_look_177 ?_
        refine vp_callSi (va_Run.run (va_runS (As := [.int (nm_g x 2 v2)]) (rest := []) ⟨hx, hb, hml, hown, hts⟩ (t_isDigit l G _ (nm_g x 2 v2)) (va_cwS 1 hts (nn_gS mw_1045 mw_1043 mw_1044 mw_94) rfl rfl rfl (by decide +kernel) ⟨Nat.le_of_ble_eq_true rfl, Nat.le_of_ble_eq_true rfl⟩) (nn_preS nb_P0 (nb_D0 (A := fun _ => True)) hK hN) rfl rfl hl.1 rfl (lv_room (Nat.le_of_ble_eq_true rfl)) d_Mo_look_178 ⟨Nat.le_of_ble_eq_true rfl, Nat.le_of_ble_eq_true rfl⟩)) (fun r2 er2 => ?_)
        subst er2
        refine lv_if_eq (tgt := 228) hx hb d_Mo_look_181 rfl (fun hc181 => ?_) (fun hc181 => ?_)
        · skip
          have hk := hk.1 hc181
          have hl := lv_sub (l' := [(0, .ref mo), (2, .int v2)]) hl [0, 1] rfl
          have hR : k_look_164 (n + 1) x v2 = k_look_228 x v2 := by rw [k_look_164]; rw [if_neg hc169]; rw [if_pos hc181]
          exact nm_W1 hR (J228 x v2 ls _ _ hk hl hP hD hS)
        · skip
          have hk := hk.2 hc181
          refine lv_aload_n hx hb d_Mo_look_184 rfl (lv_at hl 0 rfl) ?_
          refine lv_iload_n hx hb d_Mo_look_185 rfl (lv_at hl 1 rfl) ?_
          refine lv_aload_n hx hb d_Mo_look_186 rfl (lv_at hl 0 rfl) ?_
          refine nm_get hx hb hg hown hK hP 4 (by decide) (by decide) (hg _ mw_894) d_Mo_look_187 ?_
          refine lv_isub hx hb d_Mo_look_190 ?_
          refine lv_iconst (v := 4) hx hb d_Mo_look_191 (by decide) ?_
          refine lv_icmp_ge (tgt := 215) hx hb d_Mo_look_192 rfl (fun hc192 => ?_) (fun hc192 => ?_)
          · skip
            have hk := hk.1 hc192
            refine lv_aload_n hx hb d_Mo_look_215 rfl (lv_at hl 0 rfl) ?_
            refine nm_get hx hb hg hown hK hP 5 (by decide) (by decide) (hg _ mw_895) d_Mo_look_216 ?_
            refine nm_put hx hb hg hown hK hP hD hS 5 (by decide) (by decide) (by decide) (hg _ mw_895) d_Mo_look_219 (fun H locs hP hD hS => ?_)
            refine lv_iinc (k := 1) (v := v2 + 1) (lv' := [(2, .int (v2 + 1)), (0, .ref mo)]) hx hb d_Mo_look_222 hl rfl (rfl) (by decide) rfl (fun ls hl => ?_)
            refine lv_goto (tgt := 164) hx hb d_Mo_look_225 rfl ?_
            have hl := lv_sub (l' := [(0, .ref mo), (2, .int (v2 + 1))]) hl [1, 0] rfl
            have hR : k_look_164 (n + 1) x v2 = k_look_164 n (nm_f x 5 (x.1 5)) (v2 + 1) := by rw [k_look_164]; rw [if_neg hc169]; rw [if_neg hc181]; rw [if_pos hc192]
            exact nm_W1 hR (ih (nm_f x 5 (x.1 5)) (v2 + 1) ls _ _ hk hl hP hD hS)
          · skip
            have hk := hk.2 hc192
            refine lv_bipush (v := 10) hx hb d_Mo_look_195 (by decide) ?_
            refine lv_aload_n hx hb d_Mo_look_197 rfl (lv_at hl 0 rfl) ?_
            refine nm_get hx hb hg hown hK hP 5 (by decide) (by decide) (hg _ mw_895) d_Mo_look_198 ?_
            refine lv_imul hx hb d_Mo_look_201 ?_
            refine lv_aload_n hx hb d_Mo_look_202 rfl (lv_at hl 0 rfl) ?_
            refine nm_getA hx hb hg hown hK hP 2 (by decide) (by decide) (hg _ mw_892) d_Mo_look_203 ?_
            refine lv_iload_n hx hb d_Mo_look_206 rfl (lv_at hl 1 rfl) ?_
            obtain ⟨hi, hk⟩ := hk
            refine nm_ldc hx hb hK hP hi d_Mo_look_207 ?_
            refine lv_iadd hx hb d_Mo_look_208 ?_
            refine lv_bipush (v := 48) hx hb d_Mo_look_209 (by decide) ?_
            refine lv_isub hx hb d_Mo_look_211 ?_
            refine lv_goto (tgt := 219) hx hb d_Mo_look_212 rfl ?_
            refine nm_put hx hb hg hown hK hP hD hS 5 (by decide) (by decide) (by decide) (hg _ mw_895) d_Mo_look_219 (fun H locs hP hD hS => ?_)
            refine lv_iinc (k := 1) (v := v2 + 1) (lv' := [(2, .int (v2 + 1)), (0, .ref mo)]) hx hb d_Mo_look_222 hl rfl (rfl) (by decide) rfl (fun ls hl => ?_)
            refine lv_goto (tgt := 164) hx hb d_Mo_look_225 rfl ?_
            have hl := lv_sub (l' := [(0, .ref mo), (2, .int (v2 + 1))]) hl [1, 0] rfl
            have hR : k_look_164 (n + 1) x v2 = k_look_164 n (nm_f x 5 (((10 * (x.1 5)) + (nm_g x 2 v2)) - 48)) (v2 + 1) := by rw [k_look_164]; rw [if_neg hc169]; rw [if_neg hc181]; rw [if_neg hc192]
            exact nm_W1 hR (ih (nm_f x 5 (((10 * (x.1 5)) + (nm_g x 2 v2)) - 48)) (v2 + 1) ls _ _ hk hl hP hD hS)
  have J151 : ∀ (x : nM) (v2 : Int32) (w0 : Int32) (ls : Array Slot) (H : Heap) (locs : List Loc), p_look_151 x v2 w0 → lv_has ls 4 [(0, .ref mo), (2, .int v2)] → va_P G.1 nn_cls (nm_W G mo ad x) H → va_D A (nm_W G mo ad x) → va_S A s.heap H locs → W p l e (headSpec w_Mo_look ({ frames := 1, cells := 0, slots := 0, locals := 21 })).room s m [.ref mo, .int a1].toArray below meth c H locs 0 0 (MQ below (nm_Qv G mo ad (k_look_151 x v2 w0) A) [.ref mo, .int a1].toArray s 0 0 A) (F0 m 151 ls [.int w0, .ref mo]) := by
    intro x v2 w0 ls H locs hk hl hP hD hS
    unfold p_look_151 at hk
    refine nm_put hx hb hg hown hK hP hD hS 3 (by decide) (by decide) (by decide) (hg _ mw_893) d_Mo_look_151 (fun H locs hP hD hS => ?_)
    refine lv_goto (tgt := 299) hx hb d_Mo_look_154 rfl ?_
    have hl := lv_sub (l' := [(0, .ref mo), (2, .int v2)]) hl [0, 1] rfl
    have hR : k_look_151 x v2 w0 = k_look_299 (nm_f x 3 w0) v2 := by rw [k_look_151]
    exact nm_W1 hR (J299 (nm_f x 3 w0) v2 ls _ _ hk hl hP hD hS)
  have J128 : ∀ (x : nM) (v2 : Int32) (ls : Array Slot) (H : Heap) (locs : List Loc), p_look_128 x v2 → lv_has ls 4 [(0, .ref mo), (2, .int v2)] → va_P G.1 nn_cls (nm_W G mo ad x) H → va_D A (nm_W G mo ad x) → va_S A s.heap H locs → W p l e (headSpec w_Mo_look ({ frames := 1, cells := 0, slots := 0, locals := 21 })).room s m [.ref mo, .int a1].toArray below meth c H locs 0 0 (MQ below (nm_Qv G mo ad (k_look_128 x v2) A) [.ref mo, .int a1].toArray s 0 0 A) (F0 m 128 ls []) := by
    intro x v2 ls H locs hk hl hP hD hS
    unfold p_look_128 at hk
    refine lv_aload_n hx hb d_Mo_look_128 rfl (lv_at hl 0 rfl) ?_
    refine lv_iload_n hx hb d_Mo_look_129 rfl (lv_at hl 1 rfl) ?_
    refine lv_aload_n hx hb d_Mo_look_130 rfl (lv_at hl 0 rfl) ?_
    refine nm_get hx hb hg hown hK hP 4 (by decide) (by decide) (hg _ mw_894) d_Mo_look_131 ?_
    refine lv_isub hx hb d_Mo_look_134 ?_
    refine lv_bipush (v := 6) hx hb d_Mo_look_135 (by decide) ?_
    refine lv_icmp_le (tgt := 144) hx hb d_Mo_look_137 rfl (fun hc137 => ?_) (fun hc137 => ?_)
    · skip
      have hk := hk.1 hc137
      refine lv_aload_n hx hb d_Mo_look_144 rfl (lv_at hl 0 rfl) ?_
      refine nm_get hx hb hg hown hK hP 5 (by decide) (by decide) (hg _ mw_895) d_Mo_look_145 ?_
      refine vp_callSi (va_Run.run (va_runS (As := [.int (x.1 5)]) (rest := [.ref mo]) ⟨hx, hb, hml, hown, hts⟩ (t_wordOf l G _ (x.1 5)) (va_cwS 1 hts (nn_gS mw_1042 mw_1040 mw_1041 mw_94) rfl rfl rfl (by decide +kernel) ⟨Nat.le_of_ble_eq_true rfl, Nat.le_of_ble_eq_true rfl⟩) (nn_preS nb_P0 (nb_D0 (A := fun _ => True)) hK hN) rfl rfl hl.1 rfl (lv_room (Nat.le_of_ble_eq_true rfl)) d_Mo_look_148 ⟨Nat.le_of_ble_eq_true rfl, Nat.le_of_ble_eq_true rfl⟩)) (fun r3 er3 => ?_)
      subst er3
      have hl := lv_sub (l' := [(0, .ref mo), (2, .int v2)]) hl [0, 1] rfl
      have hR : k_look_128 x v2 = k_look_151 x v2 (m_wordOf (x.1 5)) := by rw [k_look_128]; rw [if_pos hc137]
      exact nm_W1 hR (J151 x v2 (m_wordOf (x.1 5)) ls _ _ hk hl hP hD hS)
    · skip
      have hk := hk.2 hc137
      refine lv_iconst (v := 1) hx hb d_Mo_look_140 (by decide) ?_
      refine lv_goto (tgt := 151) hx hb d_Mo_look_141 rfl ?_
      have hl := lv_sub (l' := [(0, .ref mo), (2, .int v2)]) hl [0, 1] rfl
      have hR : k_look_128 x v2 = k_look_151 x v2 1 := by rw [k_look_128]; rw [if_neg hc137]
      exact nm_W1 hR (J151 x v2 1 ls _ _ hk hl hP hD hS)
  have J62 : ∀ (n : Nat) (x : nM) (v2 : Int32) (ls : Array Slot) (H : Heap) (locs : List Loc), p_look_62 n x v2 → lv_has ls 4 [(0, .ref mo), (2, .int v2)] → va_P G.1 nn_cls (nm_W G mo ad x) H → va_D A (nm_W G mo ad x) → va_S A s.heap H locs → W p l e (headSpec w_Mo_look ({ frames := 1, cells := 0, slots := 0, locals := 21 })).room s m [.ref mo, .int a1].toArray below meth c H locs 0 0 (MQ below (nm_Qv G mo ad (k_look_62 n x v2) A) [.ref mo, .int a1].toArray s 0 0 A) (F0 m 62 ls []) := by
    intro n
    induction n with
    | zero =>
      intro x v2 ls H locs hk
      exact (show False from hk).elim
    | succ n ih =>
      intro x v2 ls H locs hk hl hP hD hS
      unfold p_look_62 at hk
      refine lv_iload_n hx hb d_Mo_look_62 rfl (lv_at hl 1 rfl) ?_
      refine lv_aload_n hx hb d_Mo_look_63 rfl (lv_at hl 0 rfl) ?_
      refine nm_get hx hb hg hown hK hP 1 (by decide) (by decide) (hg _ mw_891) d_Mo_look_64 ?_
      refine lv_icmp_ge (tgt := 128) hx hb d_Mo_look_67 rfl (fun hc67 => ?_) (fun hc67 => ?_)
      · skip
        have hk := hk.1 hc67
        have hl := lv_sub (l' := [(0, .ref mo), (2, .int v2)]) hl [0, 1] rfl
        have hR : k_look_62 (n + 1) x v2 = k_look_128 x v2 := by rw [k_look_62]; rw [if_pos hc67]
        exact nm_W1 hR (J128 x v2 ls _ _ hk hl hP hD hS)
      · skip
        have hk := hk.2 hc67
        refine lv_aload_n hx hb d_Mo_look_70 rfl (lv_at hl 0 rfl) ?_
        refine nm_getA hx hb hg hown hK hP 2 (by decide) (by decide) (hg _ mw_892) d_Mo_look_71 ?_
        refine lv_iload_n hx hb d_Mo_look_74 rfl (lv_at hl 1 rfl) ?_
        obtain ⟨hi, hk⟩ := hk
        refine nm_ldc hx hb hK hP hi d_Mo_look_75 ?_
        refine vp_callSi (va_Run.run (va_runS (As := [.int (nm_g x 2 v2)]) (rest := []) ⟨hx, hb, hml, hown, hts⟩ (t_isLetter l G _ (nm_g x 2 v2)) (va_cwS 1 hts (nn_gS mw_1039 mw_1037 mw_1038 mw_94) rfl rfl rfl (by decide +kernel) ⟨Nat.le_of_ble_eq_true rfl, Nat.le_of_ble_eq_true rfl⟩) (nn_preS nb_P0 (nb_D0 (A := fun _ => True)) hK hN) rfl rfl hl.1 rfl (lv_room (Nat.le_of_ble_eq_true rfl)) d_Mo_look_76 ⟨Nat.le_of_ble_eq_true rfl, Nat.le_of_ble_eq_true rfl⟩)) (fun r4 er4 => ?_)
        subst er4
        refine lv_if_eq (tgt := 128) hx hb d_Mo_look_79 rfl (fun hc79 => ?_) (fun hc79 => ?_)
        · skip
          have hk := hk.1 hc79
          have hl := lv_sub (l' := [(0, .ref mo), (2, .int v2)]) hl [0, 1] rfl
          have hR : k_look_62 (n + 1) x v2 = k_look_128 x v2 := by rw [k_look_62]; rw [if_neg hc67]; rw [if_pos hc79]
          exact nm_W1 hR (J128 x v2 ls _ _ hk hl hP hD hS)
        · skip
          have hk := hk.2 hc79
          refine lv_aload_n hx hb d_Mo_look_82 rfl (lv_at hl 0 rfl) ?_
          refine lv_iload_n hx hb d_Mo_look_83 rfl (lv_at hl 1 rfl) ?_
          refine lv_aload_n hx hb d_Mo_look_84 rfl (lv_at hl 0 rfl) ?_
          refine nm_get hx hb hg hown hK hP 4 (by decide) (by decide) (hg _ mw_894) d_Mo_look_85 ?_
          refine lv_isub hx hb d_Mo_look_88 ?_
          refine lv_bipush (v := 6) hx hb d_Mo_look_89 (by decide) ?_
          refine lv_icmp_ge (tgt := 115) hx hb d_Mo_look_91 rfl (fun hc91 => ?_) (fun hc91 => ?_)
          · skip
            have hk := hk.1 hc91
            refine lv_aload_n hx hb d_Mo_look_115 rfl (lv_at hl 0 rfl) ?_
            refine nm_get hx hb hg hown hK hP 5 (by decide) (by decide) (hg _ mw_895) d_Mo_look_116 ?_
            refine nm_put hx hb hg hown hK hP hD hS 5 (by decide) (by decide) (by decide) (hg _ mw_895) d_Mo_look_119 (fun H locs hP hD hS => ?_)
            refine lv_iinc (k := 1) (v := v2 + 1) (lv' := [(2, .int (v2 + 1)), (0, .ref mo)]) hx hb d_Mo_look_122 hl rfl (rfl) (by decide) rfl (fun ls hl => ?_)
            refine lv_goto (tgt := 62) hx hb d_Mo_look_125 rfl ?_
            have hl := lv_sub (l' := [(0, .ref mo), (2, .int (v2 + 1))]) hl [1, 0] rfl
            have hR : k_look_62 (n + 1) x v2 = k_look_62 n (nm_f x 5 (x.1 5)) (v2 + 1) := by rw [k_look_62]; rw [if_neg hc67]; rw [if_neg hc79]; rw [if_pos hc91]
            exact nm_W1 hR (ih (nm_f x 5 (x.1 5)) (v2 + 1) ls _ _ hk hl hP hD hS)
          · skip
            have hk := hk.2 hc91
            refine lv_aload_n hx hb d_Mo_look_94 rfl (lv_at hl 0 rfl) ?_
            refine nm_get hx hb hg hown hK hP 5 (by decide) (by decide) (hg _ mw_895) d_Mo_look_95 ?_
            refine lv_iconst (v := 5) hx hb d_Mo_look_98 (by decide) ?_
            refine lv_ishl hx hb d_Mo_look_99 ?_
            refine lv_aload_n hx hb d_Mo_look_100 rfl (lv_at hl 0 rfl) ?_
            refine nm_getA hx hb hg hown hK hP 2 (by decide) (by decide) (hg _ mw_892) d_Mo_look_101 ?_
            refine lv_iload_n hx hb d_Mo_look_104 rfl (lv_at hl 1 rfl) ?_
            obtain ⟨hi, hk⟩ := hk
            refine nm_ldc hx hb hK hP hi d_Mo_look_105 ?_
            refine lv_bipush (v := 97) hx hb d_Mo_look_106 (by decide) ?_
            refine lv_isub hx hb d_Mo_look_108 ?_
            refine lv_iconst (v := 1) hx hb d_Mo_look_109 (by decide) ?_
            refine lv_iadd hx hb d_Mo_look_110 ?_
            refine lv_ior hx hb d_Mo_look_111 ?_
            refine lv_goto (tgt := 119) hx hb d_Mo_look_112 rfl ?_
            refine nm_put hx hb hg hown hK hP hD hS 5 (by decide) (by decide) (by decide) (hg _ mw_895) d_Mo_look_119 (fun H locs hP hD hS => ?_)
            refine lv_iinc (k := 1) (v := v2 + 1) (lv' := [(2, .int (v2 + 1)), (0, .ref mo)]) hx hb d_Mo_look_122 hl rfl (rfl) (by decide) rfl (fun ls hl => ?_)
            refine lv_goto (tgt := 62) hx hb d_Mo_look_125 rfl ?_
            have hl := lv_sub (l' := [(0, .ref mo), (2, .int (v2 + 1))]) hl [1, 0] rfl
            have hR : k_look_62 (n + 1) x v2 = k_look_62 n (nm_f x 5 (((x.1 5) <<< (5 &&& 31)) ||| (((nm_g x 2 v2) - 97) + 1))) (v2 + 1) := by rw [k_look_62]; rw [if_neg hc67]; rw [if_neg hc79]; rw [if_neg hc91]
            exact nm_W1 hR (ih (nm_f x 5 (((x.1 5) <<< (5 &&& 31)) ||| (((nm_g x 2 v2) - 97) + 1))) (v2 + 1) ls _ _ hk hl hP hD hS)
  have J27 : ∀ (x : nM) (v2 : Int32) (ls : Array Slot) (H : Heap) (locs : List Loc), p_look_27 x v2 → lv_has ls 4 [(0, .ref mo), (2, .int v2)] → va_P G.1 nn_cls (nm_W G mo ad x) H → va_D A (nm_W G mo ad x) → va_S A s.heap H locs → W p l e (headSpec w_Mo_look ({ frames := 1, cells := 0, slots := 0, locals := 21 })).room s m [.ref mo, .int a1].toArray below meth c H locs 0 0 (MQ below (nm_Qv G mo ad (k_look_27 x v2) A) [.ref mo, .int a1].toArray s 0 0 A) (F0 m 27 ls []) := by
    intro x v2 ls H locs hk hl hP hD hS
    unfold p_look_27 at hk
    refine lv_aload_n hx hb d_Mo_look_27 rfl (lv_at hl 0 rfl) ?_
    refine lv_iload_n hx hb d_Mo_look_28 rfl (lv_at hl 1 rfl) ?_
    refine nm_put hx hb hg hown hK hP hD hS 4 (by decide) (by decide) (by decide) (hg _ mw_894) d_Mo_look_29 (fun H locs hP hD hS => ?_)
    refine lv_aload_n hx hb d_Mo_look_32 rfl (lv_at hl 0 rfl) ?_
    refine lv_iload_n hx hb d_Mo_look_33 rfl (lv_at hl 1 rfl) ?_
    obtain ⟨hi, hk⟩ := hk
    refine vp_callSi (va_Run.run (va_runV (As := [.int v2]) (rest := []) ⟨hx, hb, hml, hown, hts⟩ (t_here l G _ mo ad (nm_f x 4 v2) v2 hi) (cwV 1 hts (nn_gV mw_1036 mw_1033 mw_1035 mw_48 mw_94) rfl rfl rfl (by decide +kernel) ⟨Nat.le_of_ble_eq_true rfl, Nat.le_of_ble_eq_true rfl⟩) (nn_preV (va_recv hK hP rfl (q0 := 0) rfl) hP hD hK hN) rfl rfl hl.1 rfl (lv_room (Nat.le_of_ble_eq_true rfl)) d_Mo_look_34 ⟨Nat.le_of_ble_eq_true rfl, Nat.le_of_ble_eq_true rfl⟩)) (fun r5 er5 => ?_)
    subst er5
    refine lv_istore_n (lv' := [(3, .int (m_here (nm_f x 4 v2) v2)), (0, .ref mo), (2, .int v2)]) hx hb d_Mo_look_37 rfl hl (by decide) rfl (fun ls hl => ?_)
    refine lv_aload_n hx hb d_Mo_look_38 rfl (lv_at hl 1 rfl) ?_
    refine lv_iconst (v := 0) hx hb d_Mo_look_39 (by decide) ?_
    refine nm_put hx hb hg hown hK hP hD hS 5 (by decide) (by decide) (by decide) (hg _ mw_895) d_Mo_look_40 (fun H locs hP hD hS => ?_)
    refine lv_iload_n hx hb d_Mo_look_43 rfl (lv_at hl 0 rfl) ?_
    refine lv_if_ne (tgt := 55) hx hb d_Mo_look_44 rfl (fun hc44 => ?_) (fun hc44 => ?_)
    · skip
      have hk := hk.2 hc44
      refine lv_iload_n hx hb d_Mo_look_55 rfl (lv_at hl 0 rfl) ?_
      refine vp_callSi (va_Run.run (va_runS (As := [.int (m_here (nm_f x 4 v2) v2)]) (rest := []) ⟨hx, hb, hml, hown, hts⟩ (t_isLetter l G _ (m_here (nm_f x 4 v2) v2)) (va_cwS 1 hts (nn_gS mw_1039 mw_1037 mw_1038 mw_94) rfl rfl rfl (by decide +kernel) ⟨Nat.le_of_ble_eq_true rfl, Nat.le_of_ble_eq_true rfl⟩) (nn_preS nb_P0 (nb_D0 (A := fun _ => True)) hK hN) rfl rfl hl.1 rfl (lv_room (Nat.le_of_ble_eq_true rfl)) d_Mo_look_56 ⟨Nat.le_of_ble_eq_true rfl, Nat.le_of_ble_eq_true rfl⟩)) (fun r6 er6 => ?_)
      subst er6
      refine lv_if_eq (tgt := 157) hx hb d_Mo_look_59 rfl (fun hc59 => ?_) (fun hc59 => ?_)
      · skip
        have hk := hk.1 hc59
        refine lv_iload_n hx hb d_Mo_look_157 rfl (lv_at hl 0 rfl) ?_
        refine vp_callSi (va_Run.run (va_runS (As := [.int (m_here (nm_f x 4 v2) v2)]) (rest := []) ⟨hx, hb, hml, hown, hts⟩ (t_isDigit l G _ (m_here (nm_f x 4 v2) v2)) (va_cwS 1 hts (nn_gS mw_1045 mw_1043 mw_1044 mw_94) rfl rfl rfl (by decide +kernel) ⟨Nat.le_of_ble_eq_true rfl, Nat.le_of_ble_eq_true rfl⟩) (nn_preS nb_P0 (nb_D0 (A := fun _ => True)) hK hN) rfl rfl hl.1 rfl (lv_room (Nat.le_of_ble_eq_true rfl)) d_Mo_look_158 ⟨Nat.le_of_ble_eq_true rfl, Nat.le_of_ble_eq_true rfl⟩)) (fun r7 er7 => ?_)
        subst er7
        refine lv_if_eq (tgt := 250) hx hb d_Mo_look_161 rfl (fun hc161 => ?_) (fun hc161 => ?_)
        · skip
          have hk := hk.1 hc161
          refine lv_iload_n hx hb d_Mo_look_250 rfl (lv_at hl 0 rfl) ?_
          refine lv_bipush (v := 58) hx hb d_Mo_look_251 (by decide) ?_
          refine lv_icmp_ne (tgt := 280) hx hb d_Mo_look_253 rfl (fun hc253 => ?_) (fun hc253 => ?_)
          · skip
            have hk := hk.2 hc253
            have hl := lv_sub (l' := [(0, .ref mo), (2, .int v2), (3, .int (m_here (nm_f x 4 v2) v2))]) hl [1, 2, 0] rfl
            have hR : k_look_27 x v2 = k_look_280 (nm_f (nm_f x 4 v2) 5 0) v2 (m_here (nm_f x 4 v2) v2) := by rw [k_look_27]; rw [if_neg hc44]; rw [if_pos hc59]; rw [if_pos hc161]; rw [if_neg hc253]
            exact nm_W1 hR (J280 (nm_f (nm_f x 4 v2) 5 0) v2 (m_here (nm_f x 4 v2) v2) ls _ _ hk hl hP hD hS)
          · skip
            have hk := hk.1 hc253
            refine lv_aload_n hx hb d_Mo_look_256 rfl (lv_at hl 1 rfl) ?_
            refine lv_iload_n hx hb d_Mo_look_257 rfl (lv_at hl 2 rfl) ?_
            refine lv_iconst (v := 1) hx hb d_Mo_look_258 (by decide) ?_
            refine lv_iadd hx hb d_Mo_look_259 ?_
            obtain ⟨hi, hk⟩ := hk
            refine vp_callSi (va_Run.run (va_runV (As := [.int (v2 + 1)]) (rest := []) ⟨hx, hb, hml, hown, hts⟩ (t_here l G _ mo ad (nm_f (nm_f x 4 v2) 5 0) (v2 + 1) hi) (cwV 1 hts (nn_gV mw_1036 mw_1033 mw_1035 mw_48 mw_94) rfl rfl rfl (by decide +kernel) ⟨Nat.le_of_ble_eq_true rfl, Nat.le_of_ble_eq_true rfl⟩) (nn_preV (va_recv hK hP rfl (q0 := 0) rfl) hP hD hK hN) rfl rfl hl.1 rfl (lv_room (Nat.le_of_ble_eq_true rfl)) d_Mo_look_260 ⟨Nat.le_of_ble_eq_true rfl, Nat.le_of_ble_eq_true rfl⟩)) (fun r8 er8 => ?_)
            subst er8
            refine lv_bipush (v := 61) hx hb d_Mo_look_263 (by decide) ?_
            refine lv_icmp_ne (tgt := 280) hx hb d_Mo_look_265 rfl (fun hc265 => ?_) (fun hc265 => ?_)
            · skip
              have hk := hk.2 hc265
              have hl := lv_sub (l' := [(0, .ref mo), (2, .int v2), (3, .int (m_here (nm_f x 4 v2) v2))]) hl [1, 2, 0] rfl
              have hR : k_look_27 x v2 = k_look_280 (nm_f (nm_f x 4 v2) 5 0) v2 (m_here (nm_f x 4 v2) v2) := by rw [k_look_27]; rw [if_neg hc44]; rw [if_pos hc59]; rw [if_pos hc161]; rw [if_pos hc253]; rw [if_neg hc265]
              exact nm_W1 hR (J280 (nm_f (nm_f x 4 v2) 5 0) v2 (m_here (nm_f x 4 v2) v2) ls _ _ hk hl hP hD hS)
            · skip
              have hk := hk.1 hc265
              refine lv_aload_n hx hb d_Mo_look_268 rfl (lv_at hl 1 rfl) ?_
              refine lv_bipush (v := 127) hx hb d_Mo_look_269 (by decide) ?_
              refine nm_put hx hb hg hown hK hP hD hS 3 (by decide) (by decide) (by decide) (hg _ mw_893) d_Mo_look_271 (fun H locs hP hD hS => ?_)
              refine lv_iinc (k := 2) (v := v2 + 2) (lv' := [(2, .int (v2 + 2)), (3, .int (m_here (nm_f x 4 v2) v2)), (0, .ref mo)]) hx hb d_Mo_look_274 hl rfl (rfl) (by decide) rfl (fun ls hl => ?_)
              refine lv_goto (tgt := 299) hx hb d_Mo_look_277 rfl ?_
              have hl := lv_sub (l' := [(0, .ref mo), (2, .int (v2 + 2))]) hl [2, 0] rfl
              have hR : k_look_27 x v2 = k_look_299 (nm_f (nm_f (nm_f x 4 v2) 5 0) 3 127) (v2 + 2) := by rw [k_look_27]; rw [if_neg hc44]; rw [if_pos hc59]; rw [if_pos hc161]; rw [if_pos hc253]; rw [if_pos hc265]
              exact nm_W1 hR (J299 (nm_f (nm_f (nm_f x 4 v2) 5 0) 3 127) (v2 + 2) ls _ _ hk hl hP hD hS)
        · skip
          have hk := hk.2 hc161
          have hl := lv_sub (l' := [(0, .ref mo), (2, .int v2)]) hl [1, 2] rfl
          have hR : k_look_27 x v2 = k_look_164 300 (nm_f (nm_f x 4 v2) 5 0) v2 := by rw [k_look_27]; rw [if_neg hc44]; rw [if_pos hc59]; rw [if_neg hc161]
          exact nm_W1 hR (J164 300 (nm_f (nm_f x 4 v2) 5 0) v2 ls _ _ hk hl hP hD hS)
      · skip
        have hk := hk.2 hc59
        have hl := lv_sub (l' := [(0, .ref mo), (2, .int v2)]) hl [1, 2] rfl
        have hR : k_look_27 x v2 = k_look_62 300 (nm_f (nm_f x 4 v2) 5 0) v2 := by rw [k_look_27]; rw [if_neg hc44]; rw [if_neg hc59]
        exact nm_W1 hR (J62 300 (nm_f (nm_f x 4 v2) 5 0) v2 ls _ _ hk hl hP hD hS)
    · skip
      have hk := hk.1 hc44
      refine lv_aload_n hx hb d_Mo_look_47 rfl (lv_at hl 1 rfl) ?_
      refine lv_iconst (v := 0) hx hb d_Mo_look_48 (by decide) ?_
      refine nm_put hx hb hg hown hK hP hD hS 3 (by decide) (by decide) (by decide) (hg _ mw_893) d_Mo_look_49 (fun H locs hP hD hS => ?_)
      refine lv_goto (tgt := 299) hx hb d_Mo_look_52 rfl ?_
      have hl := lv_sub (l' := [(0, .ref mo), (2, .int v2)]) hl [1, 2] rfl
      have hR : k_look_27 x v2 = k_look_299 (nm_f (nm_f (nm_f x 4 v2) 5 0) 3 0) v2 := by rw [k_look_27]; rw [if_pos hc44]
      exact nm_W1 hR (J299 (nm_f (nm_f (nm_f x 4 v2) 5 0) 3 0) v2 ls _ _ hk hl hP hD hS)
  have J2 : ∀ (n : Nat) (x : nM) (v2 : Int32) (ls : Array Slot) (H : Heap) (locs : List Loc), p_look_2 n x v2 → lv_has ls 4 [(0, .ref mo), (2, .int v2)] → va_P G.1 nn_cls (nm_W G mo ad x) H → va_D A (nm_W G mo ad x) → va_S A s.heap H locs → W p l e (headSpec w_Mo_look ({ frames := 1, cells := 0, slots := 0, locals := 21 })).room s m [.ref mo, .int a1].toArray below meth c H locs 0 0 (MQ below (nm_Qv G mo ad (k_look_2 n x v2) A) [.ref mo, .int a1].toArray s 0 0 A) (F0 m 2 ls []) := by
    intro n
    induction n with
    | zero =>
      intro x v2 ls H locs hk
      exact (show False from hk).elim
    | succ n ih =>
      intro x v2 ls H locs hk hl hP hD hS
      unfold p_look_2 at hk
      refine lv_iload_n hx hb d_Mo_look_2 rfl (lv_at hl 1 rfl) ?_
      refine lv_aload_n hx hb d_Mo_look_3 rfl (lv_at hl 0 rfl) ?_
      refine nm_get hx hb hg hown hK hP 1 (by decide) (by decide) (hg _ mw_891) d_Mo_look_4 ?_
      refine lv_icmp_ge (tgt := 27) hx hb d_Mo_look_7 rfl (fun hc7 => ?_) (fun hc7 => ?_)
      · skip
        have hk := hk.1 hc7
        have hl := lv_sub (l' := [(0, .ref mo), (2, .int v2)]) hl [0, 1] rfl
        have hR : k_look_2 (n + 1) x v2 = k_look_27 x v2 := by rw [k_look_2]; rw [if_pos hc7]
        exact nm_W1 hR (J27 x v2 ls _ _ hk hl hP hD hS)
      · skip
        have hk := hk.2 hc7
        refine lv_aload_n hx hb d_Mo_look_10 rfl (lv_at hl 0 rfl) ?_
        refine nm_getA hx hb hg hown hK hP 2 (by decide) (by decide) (hg _ mw_892) d_Mo_look_11 ?_
        refine lv_iload_n hx hb d_Mo_look_14 rfl (lv_at hl 1 rfl) ?_
        obtain ⟨hi, hk⟩ := hk
        refine nm_ldc hx hb hK hP hi d_Mo_look_15 ?_
        refine lv_bipush (v := 32) hx hb d_Mo_look_16 (by decide) ?_
        refine lv_icmp_ne (tgt := 27) hx hb d_Mo_look_18 rfl (fun hc18 => ?_) (fun hc18 => ?_)
        · skip
          have hk := hk.2 hc18
          have hl := lv_sub (l' := [(0, .ref mo), (2, .int v2)]) hl [0, 1] rfl
          have hR : k_look_2 (n + 1) x v2 = k_look_27 x v2 := by rw [k_look_2]; rw [if_neg hc7]; rw [if_neg hc18]
          exact nm_W1 hR (J27 x v2 ls _ _ hk hl hP hD hS)
        · skip
          have hk := hk.1 hc18
          refine lv_iinc (k := 1) (v := v2 + 1) (lv' := [(2, .int (v2 + 1)), (0, .ref mo)]) hx hb d_Mo_look_21 hl rfl (rfl) (by decide) rfl (fun ls hl => ?_)
          refine lv_goto (tgt := 2) hx hb d_Mo_look_24 rfl ?_
          have hl := lv_sub (l' := [(0, .ref mo), (2, .int (v2 + 1))]) hl [1, 0] rfl
          have hR : k_look_2 (n + 1) x v2 = k_look_2 n x (v2 + 1) := by rw [k_look_2]; rw [if_neg hc7]; rw [if_pos hc18]
          exact nm_W1 hR (ih x (v2 + 1) ls _ _ hk hl hP hD hS)
  unfold o_look at hk
  refine lv_iload_n hx hb d_Mo_look_0 rfl (lv_at hl 1 rfl) ?_
  refine lv_istore_n (lv' := [(2, .int a1), (0, .ref mo), (1, .int a1)]) hx hb d_Mo_look_1 rfl hl (by decide) rfl (fun ls hl => ?_)
  have hl := lv_sub (l' := [(0, .ref mo), (2, .int a1)]) hl [1, 0] rfl
  have hR : m_look x a1 = k_look_2 300 x a1 := by rw [m_look]
  exact nm_W1 hR (J2 300 x a1 ls _ _ hk hl hP hD hS)

theorem mw_47 : (.selects R_Mo y_Mo_look y_Mo_look : Cond) ∈ nn_gw := nn_at 47 (by decide +kernel) (by decide +kernel)
theorem mw_1029 : (.methodLink R_Mo 107 y_Mo_look : Cond) ∈ nn_gw := nn_at 1029 (by decide +kernel) (by decide +kernel)
theorem mw_1031 : (.instanceMethod y_Mo_look : Cond) ∈ nn_gw := nn_at 1031 (by decide +kernel) (by decide +kernel)
set_option maxRecDepth 100000 in
theorem mw_1032 : (.code y_Mo_look b_Mo_look 4 none : Cond) ∈ nn_gw := nn_at 1032 (by rfl) (by decide +kernel)
theorem d_Mo_goOn_0 : decode b_Mo_goOn 0 = .ok (.aload_n 0, 1) := by decide +kernel
theorem d_Mo_goOn_1 : decode b_Mo_goOn 1 = .ok (.aload_n 0, 1) := by decide +kernel
theorem d_Mo_goOn_2 : decode b_Mo_goOn 2 = .ok (.getfield 104, 3) := by decide +kernel
theorem d_Mo_goOn_5 : decode b_Mo_goOn 5 = .ok (.invokevirtual 107, 3) := by decide +kernel
theorem d_Mo_goOn_8 : decode b_Mo_goOn 8 = .ok (.return_, 1) := by decide +kernel

def m_goOn (x : nM)  : nM := (m_look x (x.1 6))
def o_goOn (x : nM)  : Prop := o_look x (x.1 6) ∧ True
set_option maxHeartbeats 4000000 in
set_option maxRecDepth 100000 in
theorem t_goOn (l : Launch) (G : nn_G) (sz : Nat) (mo : Nat) (ad : Nat → Nat) (x : nM)  (hk : o_goOn x) : Met l y_Mo_goOn w_Mo_goOn ({ frames := 2, cells := 0, slots := 0, locals := 44 }) (nn_P G [.ref mo] (nm_W G mo ad x) sz) (nm_Qv G mo ad (m_goOn x) (va_A (nm_W G mo ad x) sz)) 0 0 (va_A (nm_W G mo ad x) sz) := by
  refine Met.ofW (cc := b_Mo_goOn) (maxL := 1) (ret := none) (by decide) rfl ?_
  intro p e s m args below meth c s₁ B hml hv
  obtain ⟨rfl, hsz, hP, hK, hD0, hN⟩ := hv
  have hx := B.exec
  have hb := B.bytes
  have hr := B.returns
  have hts := atoms_spec (ws := w_Mo_goOn) B.pre
  have hg : ∀ w ∈ nn_gw, w.before _ s = true := fun w h => hts w (List.mem_cons_of_mem _ h)
  have hown : s.vm.findClass R_Mo = some m.cls := findClass_of_methodNamed B.named
  subst hsz
  have hD := hD0.self (sz := s.heap.size)
  generalize hAe : va_A (nm_W G mo ad x) s.heap.size = A at hD ⊢
  have hA : ∀ q : Nat, s.heap.size ≤ q → A q := fun q h => by rw [← hAe]; exact Or.inr h
  clear hAe
  have hS : va_S A s.heap s.heap [] := va_S.rf
  have hP : va_P G.1 nn_cls (nm_W G mo ad x) s.heap := hP
  have hl := lv_entry ([.ref mo]) (n := 1) (Nat.le_of_ble_eq_true rfl)
  rw [lg_entry_eq]
  generalize (lg_sl ([.ref mo]) ++ List.replicate (1 - (lg_sl ([.ref mo])).length) Slot.unset).toArray = ls at hl ⊢
  have hl : lv_has ls 1 [(0, .ref mo)] := hl
  unfold o_goOn at hk
  refine lv_aload_n hx hb d_Mo_goOn_0 rfl (lv_at hl 0 rfl) ?_
  refine lv_aload_n hx hb d_Mo_goOn_1 rfl (lv_at hl 0 rfl) ?_
  refine nm_get hx hb hg hown hK hP 6 (by decide) (by decide) (hg _ mw_896) d_Mo_goOn_2 ?_
  obtain ⟨hi, hk⟩ := hk
  have hFc := nm_free hD hS hA
  refine va_callv (va_runV (As := [.int (x.1 6)]) (rest := []) ⟨hx, hb, hml, hown, hts⟩ (t_look l G _ mo ad x (x.1 6) hi) (cwV 1 hts (nn_gV mw_1032 mw_1029 mw_1031 mw_47 mw_94) rfl rfl rfl (by decide +kernel) ⟨Nat.le_of_ble_eq_true rfl, Nat.le_of_ble_eq_true rfl⟩) (nn_preV (va_recv hK hP rfl (q0 := 0) rfl) hP hD hK hN) rfl rfl hl.1 rfl (lv_room (Nat.le_of_ble_eq_true rfl)) d_Mo_goOn_5 ⟨Nat.le_of_ble_eq_true rfl, Nat.le_of_ble_eq_true rfl⟩) hS (fun q _ h => hFc q h) hFc (fun u t H locs ht hvm hw hB hz1 hk1 hS => ?_)
  obtain ⟨hP1, hD1⟩ := hB
  rw [ht] at hP1
  have hP := hP1
  have hD := hD1.weaken (fun _ _ _ h => hFc _ h)
  have hR : m_goOn x = m_look x (x.1 6) := by rw [m_goOn]
  refine nm_W1 hR ?_
  exact W.vret hx hb hr (fun t ht hW => ⟨⟨(), rfl, trivial, ⟨by rw [ht]; exact hP, hD⟩⟩, hS.F ht⟩) hS.2.2 d_Mo_goOn_8

theorem mw_897 : (.fieldLink R_Mo 111 R_Mo "error" "I" : Cond) ∈ nn_gw := nn_at 897 (by decide +kernel) (by decide +kernel)
theorem mw_898 : (.fieldLink R_Mo 114 R_Mo "place" "I" : Cond) ∈ nn_gw := nn_at 898 (by decide +kernel) (by decide +kernel)
theorem d_Mo_fail_0 : decode b_Mo_fail 0 = .ok (.aload_n 0, 1) := by decide +kernel
theorem d_Mo_fail_1 : decode b_Mo_fail 1 = .ok (.getfield 111, 3) := by decide +kernel
theorem d_Mo_fail_4 : decode b_Mo_fail 4 = .ok (.ifCond .ne 13, 3) := by decide +kernel
theorem d_Mo_fail_7 : decode b_Mo_fail 7 = .ok (.aload_n 0, 1) := by decide +kernel
theorem d_Mo_fail_8 : decode b_Mo_fail 8 = .ok (.iload_n 1, 1) := by decide +kernel
theorem d_Mo_fail_9 : decode b_Mo_fail 9 = .ok (.putfield 111, 3) := by decide +kernel
theorem d_Mo_fail_12 : decode b_Mo_fail 12 = .ok (.aload_n 0, 1) := by decide +kernel
theorem d_Mo_fail_13 : decode b_Mo_fail 13 = .ok (.iload_n 2, 1) := by decide +kernel
theorem d_Mo_fail_14 : decode b_Mo_fail 14 = .ok (.putfield 114, 3) := by decide +kernel
theorem d_Mo_fail_17 : decode b_Mo_fail 17 = .ok (.return_, 1) := by decide +kernel

def m_fail (x : nM) (a1 : Int32) (a2 : Int32) : nM := (if x.1 7 = 0 then (nm_f (nm_f x 7 a1) 8 a2) else x)
set_option maxHeartbeats 4000000 in
set_option maxRecDepth 100000 in
theorem t_fail (l : Launch) (G : nn_G) (sz : Nat) (mo : Nat) (ad : Nat → Nat) (x : nM) (a1 : Int32) (a2 : Int32)  : Met l y_Mo_fail w_Mo_fail ({ frames := 0, cells := 0, slots := 0, locals := 0 }) (nn_P G [.ref mo, .int a1, .int a2] (nm_W G mo ad x) sz) (nm_Qv G mo ad (m_fail x a1 a2) (va_A (nm_W G mo ad x) sz)) 0 0 (va_A (nm_W G mo ad x) sz) := by
  refine Met.ofW (cc := b_Mo_fail) (maxL := 3) (ret := none) (by decide) rfl ?_
  intro p e s m args below meth c s₁ B hml hv
  obtain ⟨rfl, hsz, hP, hK, hD0, hN⟩ := hv
  have hx := B.exec
  have hb := B.bytes
  have hr := B.returns
  have hts := atoms_spec (ws := w_Mo_fail) B.pre
  have hg : ∀ w ∈ nn_gw, w.before _ s = true := fun w h => hts w (List.mem_cons_of_mem _ h)
  have hown : s.vm.findClass R_Mo = some m.cls := findClass_of_methodNamed B.named
  subst hsz
  have hD := hD0.self (sz := s.heap.size)
  generalize hAe : va_A (nm_W G mo ad x) s.heap.size = A at hD ⊢
  have hA : ∀ q : Nat, s.heap.size ≤ q → A q := fun q h => by rw [← hAe]; exact Or.inr h
  clear hAe
  have hS : va_S A s.heap s.heap [] := va_S.rf
  have hP : va_P G.1 nn_cls (nm_W G mo ad x) s.heap := hP
  have hl := lv_entry ([.ref mo, .int a1, .int a2]) (n := 3) (Nat.le_of_ble_eq_true rfl)
  rw [lg_entry_eq]
  generalize (lg_sl ([.ref mo, .int a1, .int a2]) ++ List.replicate (3 - (lg_sl ([.ref mo, .int a1, .int a2])).length) Slot.unset).toArray = ls at hl ⊢
  have hl : lv_has ls 3 [(0, .ref mo), (1, .int a1), (2, .int a2)] := hl
  refine lv_aload_n hx hb d_Mo_fail_0 rfl (lv_at hl 0 rfl) ?_
  refine nm_get hx hb hg hown hK hP 7 (by decide) (by decide) (hg _ mw_897) d_Mo_fail_1 ?_
  refine lv_if_ne (tgt := 17) hx hb d_Mo_fail_4 rfl (fun hc4 => ?_) (fun hc4 => ?_)
  · skip
    have hR : m_fail x a1 a2 = x := by rw [m_fail]; rw [if_neg hc4]
    refine nm_W1 hR ?_
    exact W.vret hx hb hr (fun t ht hW => ⟨⟨(), rfl, trivial, ⟨by rw [ht]; exact hP, hD⟩⟩, hS.F ht⟩) hS.2.2 d_Mo_fail_17
  · skip
    refine lv_aload_n hx hb d_Mo_fail_7 rfl (lv_at hl 0 rfl) ?_
    refine lv_iload_n hx hb d_Mo_fail_8 rfl (lv_at hl 1 rfl) ?_
    refine nm_put hx hb hg hown hK hP hD hS 7 (by decide) (by decide) (by decide) (hg _ mw_897) d_Mo_fail_9 (fun H locs hP hD hS => ?_)
    refine lv_aload_n hx hb d_Mo_fail_12 rfl (lv_at hl 0 rfl) ?_
    refine lv_iload_n hx hb d_Mo_fail_13 rfl (lv_at hl 2 rfl) ?_
    refine nm_put hx hb hg hown hK hP hD hS 8 (by decide) (by decide) (by decide) (hg _ mw_898) d_Mo_fail_14 (fun H locs hP hD hS => ?_)
    have hR : m_fail x a1 a2 = nm_f (nm_f x 7 a1) 8 a2 := by rw [m_fail]; rw [if_pos hc4]
    refine nm_W1 hR ?_
    exact W.vret hx hb hr (fun t ht hW => ⟨⟨(), rfl, trivial, ⟨by rw [ht]; exact hP, hD⟩⟩, hS.F ht⟩) hS.2.2 d_Mo_fail_17

theorem mw_53 : (.selects R_Mo y_Mo_goOn y_Mo_goOn : Cond) ∈ nn_gw := nn_at 53 (by decide +kernel) (by decide +kernel)
theorem mw_56 : (.selects R_Mo y_Mo_fail y_Mo_fail : Cond) ∈ nn_gw := nn_at 56 (by decide +kernel) (by decide +kernel)
theorem mw_1065 : (.methodLink R_Mo 117 y_Mo_goOn : Cond) ∈ nn_gw := nn_at 1065 (by decide +kernel) (by decide +kernel)
theorem mw_1067 : (.instanceMethod y_Mo_goOn : Cond) ∈ nn_gw := nn_at 1067 (by decide +kernel) (by decide +kernel)
set_option maxRecDepth 100000 in
theorem mw_1068 : (.code y_Mo_goOn b_Mo_goOn 1 none : Cond) ∈ nn_gw := nn_at 1068 (by rfl) (by decide +kernel)
theorem mw_1077 : (.methodLink R_Mo 120 y_Mo_fail : Cond) ∈ nn_gw := nn_at 1077 (by decide +kernel) (by decide +kernel)
theorem mw_1079 : (.instanceMethod y_Mo_fail : Cond) ∈ nn_gw := nn_at 1079 (by decide +kernel) (by decide +kernel)
set_option maxRecDepth 100000 in
theorem mw_1080 : (.code y_Mo_fail b_Mo_fail 3 none : Cond) ∈ nn_gw := nn_at 1080 (by rfl) (by decide +kernel)
theorem d_Mo_expect_0 : decode b_Mo_expect 0 = .ok (.aload_n 0, 1) := by decide +kernel
theorem d_Mo_expect_1 : decode b_Mo_expect 1 = .ok (.getfield 88, 3) := by decide +kernel
theorem d_Mo_expect_4 : decode b_Mo_expect 4 = .ok (.iload_n 1, 1) := by decide +kernel
theorem d_Mo_expect_5 : decode b_Mo_expect 5 = .ok (.if_icmp .ne 10, 3) := by decide +kernel
theorem d_Mo_expect_8 : decode b_Mo_expect 8 = .ok (.aload_n 0, 1) := by decide +kernel
theorem d_Mo_expect_9 : decode b_Mo_expect 9 = .ok (.invokevirtual 117, 3) := by decide +kernel
theorem d_Mo_expect_12 : decode b_Mo_expect 12 = .ok (.goto 12, 3) := by decide +kernel
theorem d_Mo_expect_15 : decode b_Mo_expect 15 = .ok (.aload_n 0, 1) := by decide +kernel
theorem d_Mo_expect_16 : decode b_Mo_expect 16 = .ok (.iconst 1, 1) := by decide +kernel
theorem d_Mo_expect_17 : decode b_Mo_expect 17 = .ok (.aload_n 0, 1) := by decide +kernel
theorem d_Mo_expect_18 : decode b_Mo_expect 18 = .ok (.getfield 78, 3) := by decide +kernel
theorem d_Mo_expect_21 : decode b_Mo_expect 21 = .ok (.invokevirtual 120, 3) := by decide +kernel
theorem d_Mo_expect_24 : decode b_Mo_expect 24 = .ok (.return_, 1) := by decide +kernel

def m_expect (x : nM) (a1 : Int32) : nM := (if x.1 3 = a1 then (m_goOn x) else (m_fail x 1 (x.1 4)))
def o_expect (x : nM) (a1 : Int32) : Prop := ((x.1 3 = a1 → o_goOn x ∧ True) ∧ (¬ (x.1 3 = a1) → True))
set_option maxHeartbeats 4000000 in
set_option maxRecDepth 100000 in
theorem t_expect (l : Launch) (G : nn_G) (sz : Nat) (mo : Nat) (ad : Nat → Nat) (x : nM) (a1 : Int32) (hk : o_expect x a1) : Met l y_Mo_expect w_Mo_expect ({ frames := 3, cells := 0, slots := 0, locals := 64 }) (nn_P G [.ref mo, .int a1] (nm_W G mo ad x) sz) (nm_Qv G mo ad (m_expect x a1) (va_A (nm_W G mo ad x) sz)) 0 0 (va_A (nm_W G mo ad x) sz) := by
  refine Met.ofW (cc := b_Mo_expect) (maxL := 2) (ret := none) (by decide) rfl ?_
  intro p e s m args below meth c s₁ B hml hv
  obtain ⟨rfl, hsz, hP, hK, hD0, hN⟩ := hv
  have hx := B.exec
  have hb := B.bytes
  have hr := B.returns
  have hts := atoms_spec (ws := w_Mo_expect) B.pre
  have hg : ∀ w ∈ nn_gw, w.before _ s = true := fun w h => hts w (List.mem_cons_of_mem _ h)
  have hown : s.vm.findClass R_Mo = some m.cls := findClass_of_methodNamed B.named
  subst hsz
  have hD := hD0.self (sz := s.heap.size)
  generalize hAe : va_A (nm_W G mo ad x) s.heap.size = A at hD ⊢
  have hA : ∀ q : Nat, s.heap.size ≤ q → A q := fun q h => by rw [← hAe]; exact Or.inr h
  clear hAe
  have hS : va_S A s.heap s.heap [] := va_S.rf
  have hP : va_P G.1 nn_cls (nm_W G mo ad x) s.heap := hP
  have hl := lv_entry ([.ref mo, .int a1]) (n := 2) (Nat.le_of_ble_eq_true rfl)
  rw [lg_entry_eq]
  generalize (lg_sl ([.ref mo, .int a1]) ++ List.replicate (2 - (lg_sl ([.ref mo, .int a1])).length) Slot.unset).toArray = ls at hl ⊢
  have hl : lv_has ls 2 [(0, .ref mo), (1, .int a1)] := hl
  unfold o_expect at hk
  refine lv_aload_n hx hb d_Mo_expect_0 rfl (lv_at hl 0 rfl) ?_
  refine nm_get hx hb hg hown hK hP 3 (by decide) (by decide) (hg _ mw_893) d_Mo_expect_1 ?_
  refine lv_iload_n hx hb d_Mo_expect_4 rfl (lv_at hl 1 rfl) ?_
  refine lv_icmp_ne (tgt := 15) hx hb d_Mo_expect_5 rfl (fun hc5 => ?_) (fun hc5 => ?_)
  · skip
    have hk := hk.2 hc5
    refine lv_aload_n hx hb d_Mo_expect_15 rfl (lv_at hl 0 rfl) ?_
    refine lv_iconst (v := 1) hx hb d_Mo_expect_16 (by decide) ?_
    refine lv_aload_n hx hb d_Mo_expect_17 rfl (lv_at hl 0 rfl) ?_
    refine nm_get hx hb hg hown hK hP 4 (by decide) (by decide) (hg _ mw_894) d_Mo_expect_18 ?_
    have hFc := nm_free hD hS hA
    refine va_callv (va_runV (As := [.int 1, .int (x.1 4)]) (rest := []) ⟨hx, hb, hml, hown, hts⟩ (t_fail l G _ mo ad x 1 (x.1 4)) (cwV 2 hts (nn_gV mw_1080 mw_1077 mw_1079 mw_56 mw_94) rfl rfl rfl (by decide +kernel) ⟨Nat.le_of_ble_eq_true rfl, Nat.le_of_ble_eq_true rfl⟩) (nn_preV (va_recv hK hP rfl (q0 := 0) rfl) hP hD hK hN) rfl rfl hl.1 rfl (lv_room (Nat.le_of_ble_eq_true rfl)) d_Mo_expect_21 ⟨Nat.le_of_ble_eq_true rfl, Nat.le_of_ble_eq_true rfl⟩) hS (fun q _ h => hFc q h) hFc (fun u t H locs ht hvm hw hB hz1 hk1 hS => ?_)
    obtain ⟨hP1, hD1⟩ := hB
    rw [ht] at hP1
    have hP := hP1
    have hD := hD1.weaken (fun _ _ _ h => hFc _ h)
    have hR : m_expect x a1 = m_fail x 1 (x.1 4) := by rw [m_expect]; rw [if_neg hc5]
    refine nm_W1 hR ?_
    exact W.vret hx hb hr (fun t ht hW => ⟨⟨(), rfl, trivial, ⟨by rw [ht]; exact hP, hD⟩⟩, hS.F ht⟩) hS.2.2 d_Mo_expect_24
  · skip
    have hk := hk.1 hc5
    refine lv_aload_n hx hb d_Mo_expect_8 rfl (lv_at hl 0 rfl) ?_
    obtain ⟨hi, hk⟩ := hk
    have hFc := nm_free hD hS hA
    refine va_callv (va_runV (As := []) (rest := []) ⟨hx, hb, hml, hown, hts⟩ (t_goOn l G _ mo ad x hi) (cwV 0 hts (nn_gV mw_1068 mw_1065 mw_1067 mw_53 mw_94) rfl rfl rfl (by decide +kernel) ⟨Nat.le_of_ble_eq_true rfl, Nat.le_of_ble_eq_true rfl⟩) (nn_preV (va_recv hK hP rfl (q0 := 0) rfl) hP hD hK hN) rfl rfl hl.1 rfl (lv_room (Nat.le_of_ble_eq_true rfl)) d_Mo_expect_9 ⟨Nat.le_of_ble_eq_true rfl, Nat.le_of_ble_eq_true rfl⟩) hS (fun q _ h => hFc q h) hFc (fun u t H locs ht hvm hw hB hz1 hk1 hS => ?_)
    obtain ⟨hP1, hD1⟩ := hB
    rw [ht] at hP1
    have hP := hP1
    have hD := hD1.weaken (fun _ _ _ h => hFc _ h)
    refine lv_goto (tgt := 24) hx hb d_Mo_expect_12 rfl ?_
    have hR : m_expect x a1 = m_goOn x := by rw [m_expect]; rw [if_pos hc5]
    refine nm_W1 hR ?_
    exact W.vret hx hb hr (fun t ht hW => ⟨⟨(), rfl, trivial, ⟨by rw [ht]; exact hP, hD⟩⟩, hS.F ht⟩) hS.2.2 d_Mo_expect_24

theorem d_Mo_peek_0 : decode b_Mo_peek 0 = .ok (.aload_n 0, 1) := by decide +kernel
theorem d_Mo_peek_1 : decode b_Mo_peek 1 = .ok (.getfield 88, 3) := by decide +kernel
theorem d_Mo_peek_4 : decode b_Mo_peek 4 = .ok (.istore_n 1, 1) := by decide +kernel
theorem d_Mo_peek_5 : decode b_Mo_peek 5 = .ok (.aload_n 0, 1) := by decide +kernel
theorem d_Mo_peek_6 : decode b_Mo_peek 6 = .ok (.getfield 78, 3) := by decide +kernel
theorem d_Mo_peek_9 : decode b_Mo_peek 9 = .ok (.istore_n 2, 1) := by decide +kernel
theorem d_Mo_peek_10 : decode b_Mo_peek 10 = .ok (.aload_n 0, 1) := by decide +kernel
theorem d_Mo_peek_11 : decode b_Mo_peek 11 = .ok (.getfield 85, 3) := by decide +kernel
theorem d_Mo_peek_14 : decode b_Mo_peek 14 = .ok (.istore_n 3, 1) := by decide +kernel
theorem d_Mo_peek_15 : decode b_Mo_peek 15 = .ok (.aload_n 0, 1) := by decide +kernel
theorem d_Mo_peek_16 : decode b_Mo_peek 16 = .ok (.getfield 104, 3) := by decide +kernel
theorem d_Mo_peek_19 : decode b_Mo_peek 19 = .ok (.istore 4, 2) := by decide +kernel
theorem d_Mo_peek_21 : decode b_Mo_peek 21 = .ok (.aload_n 0, 1) := by decide +kernel
theorem d_Mo_peek_22 : decode b_Mo_peek 22 = .ok (.aload_n 0, 1) := by decide +kernel
theorem d_Mo_peek_23 : decode b_Mo_peek 23 = .ok (.getfield 104, 3) := by decide +kernel
theorem d_Mo_peek_26 : decode b_Mo_peek 26 = .ok (.invokevirtual 107, 3) := by decide +kernel
theorem d_Mo_peek_29 : decode b_Mo_peek 29 = .ok (.aload_n 0, 1) := by decide +kernel
theorem d_Mo_peek_30 : decode b_Mo_peek 30 = .ok (.getfield 88, 3) := by decide +kernel
theorem d_Mo_peek_33 : decode b_Mo_peek 33 = .ok (.istore 5, 2) := by decide +kernel
theorem d_Mo_peek_35 : decode b_Mo_peek 35 = .ok (.aload_n 0, 1) := by decide +kernel
theorem d_Mo_peek_36 : decode b_Mo_peek 36 = .ok (.iload_n 1, 1) := by decide +kernel
theorem d_Mo_peek_37 : decode b_Mo_peek 37 = .ok (.putfield 88, 3) := by decide +kernel
theorem d_Mo_peek_40 : decode b_Mo_peek 40 = .ok (.aload_n 0, 1) := by decide +kernel
theorem d_Mo_peek_41 : decode b_Mo_peek 41 = .ok (.iload_n 2, 1) := by decide +kernel
theorem d_Mo_peek_42 : decode b_Mo_peek 42 = .ok (.putfield 78, 3) := by decide +kernel
theorem d_Mo_peek_45 : decode b_Mo_peek 45 = .ok (.aload_n 0, 1) := by decide +kernel
theorem d_Mo_peek_46 : decode b_Mo_peek 46 = .ok (.iload_n 3, 1) := by decide +kernel
theorem d_Mo_peek_47 : decode b_Mo_peek 47 = .ok (.putfield 85, 3) := by decide +kernel
theorem d_Mo_peek_50 : decode b_Mo_peek 50 = .ok (.aload_n 0, 1) := by decide +kernel
theorem d_Mo_peek_51 : decode b_Mo_peek 51 = .ok (.iload 4, 2) := by decide +kernel
theorem d_Mo_peek_53 : decode b_Mo_peek 53 = .ok (.putfield 104, 3) := by decide +kernel
theorem d_Mo_peek_56 : decode b_Mo_peek 56 = .ok (.iload 5, 2) := by decide +kernel
theorem d_Mo_peek_58 : decode b_Mo_peek 58 = .ok (.ireturn, 1) := by decide +kernel

def m_peek (x : nM)  : nM × Int32 := (nm_f (nm_f (nm_f (nm_f (m_look x (x.1 6)) 3 (x.1 3)) 4 (x.1 4)) 5 (x.1 5)) 6 (x.1 6), (m_look x (x.1 6)).1 3)
def o_peek (x : nM)  : Prop := o_look x (x.1 6) ∧ True
set_option maxHeartbeats 4000000 in
set_option maxRecDepth 100000 in
theorem t_peek (l : Launch) (G : nn_G) (sz : Nat) (mo : Nat) (ad : Nat → Nat) (x : nM)  (hk : o_peek x) : Met l y_Mo_peek w_Mo_peek ({ frames := 2, cells := 0, slots := 0, locals := 44 }) (nn_P G [.ref mo] (nm_W G mo ad x) sz) (nm_Qi G mo ad (m_peek x) (va_A (nm_W G mo ad x) sz)) 0 0 (va_A (nm_W G mo ad x) sz) := by
  refine Met.ofW (cc := b_Mo_peek) (maxL := 6) (ret := some .int) (by decide) rfl ?_
  intro p e s m args below meth c s₁ B hml hv
  obtain ⟨rfl, hsz, hP, hK, hD0, hN⟩ := hv
  have hx := B.exec
  have hb := B.bytes
  have hr := B.returns
  have hts := atoms_spec (ws := w_Mo_peek) B.pre
  have hg : ∀ w ∈ nn_gw, w.before _ s = true := fun w h => hts w (List.mem_cons_of_mem _ h)
  have hown : s.vm.findClass R_Mo = some m.cls := findClass_of_methodNamed B.named
  subst hsz
  have hD := hD0.self (sz := s.heap.size)
  generalize hAe : va_A (nm_W G mo ad x) s.heap.size = A at hD ⊢
  have hA : ∀ q : Nat, s.heap.size ≤ q → A q := fun q h => by rw [← hAe]; exact Or.inr h
  clear hAe
  have hS : va_S A s.heap s.heap [] := va_S.rf
  have hP : va_P G.1 nn_cls (nm_W G mo ad x) s.heap := hP
  have hl := lv_entry ([.ref mo]) (n := 6) (Nat.le_of_ble_eq_true rfl)
  rw [lg_entry_eq]
  generalize (lg_sl ([.ref mo]) ++ List.replicate (6 - (lg_sl ([.ref mo])).length) Slot.unset).toArray = ls at hl ⊢
  have hl : lv_has ls 6 [(0, .ref mo)] := hl
  unfold o_peek at hk
  refine lv_aload_n hx hb d_Mo_peek_0 rfl (lv_at hl 0 rfl) ?_
  refine nm_get hx hb hg hown hK hP 3 (by decide) (by decide) (hg _ mw_893) d_Mo_peek_1 ?_
  refine lv_istore_n (lv' := [(1, .int (x.1 3)), (0, .ref mo)]) hx hb d_Mo_peek_4 rfl hl (by decide) rfl (fun ls hl => ?_)
  refine lv_aload_n hx hb d_Mo_peek_5 rfl (lv_at hl 1 rfl) ?_
  refine nm_get hx hb hg hown hK hP 4 (by decide) (by decide) (hg _ mw_894) d_Mo_peek_6 ?_
  refine lv_istore_n (lv' := [(2, .int (x.1 4)), (1, .int (x.1 3)), (0, .ref mo)]) hx hb d_Mo_peek_9 rfl hl (by decide) rfl (fun ls hl => ?_)
  refine lv_aload_n hx hb d_Mo_peek_10 rfl (lv_at hl 2 rfl) ?_
  refine nm_get hx hb hg hown hK hP 5 (by decide) (by decide) (hg _ mw_895) d_Mo_peek_11 ?_
  refine lv_istore_n (lv' := [(3, .int (x.1 5)), (2, .int (x.1 4)), (1, .int (x.1 3)), (0, .ref mo)]) hx hb d_Mo_peek_14 rfl hl (by decide) rfl (fun ls hl => ?_)
  refine lv_aload_n hx hb d_Mo_peek_15 rfl (lv_at hl 3 rfl) ?_
  refine nm_get hx hb hg hown hK hP 6 (by decide) (by decide) (hg _ mw_896) d_Mo_peek_16 ?_
  refine lv_istore (lv' := [(4, .int (x.1 6)), (3, .int (x.1 5)), (2, .int (x.1 4)), (1, .int (x.1 3)), (0, .ref mo)]) hx hb d_Mo_peek_19 hl (by decide) rfl (fun ls hl => ?_)
  refine lv_aload_n hx hb d_Mo_peek_21 rfl (lv_at hl 4 rfl) ?_
  refine lv_aload_n hx hb d_Mo_peek_22 rfl (lv_at hl 4 rfl) ?_
  refine nm_get hx hb hg hown hK hP 6 (by decide) (by decide) (hg _ mw_896) d_Mo_peek_23 ?_
  obtain ⟨hi, hk⟩ := hk
  have hFc := nm_free hD hS hA
  refine va_callv (va_runV (As := [.int (x.1 6)]) (rest := []) ⟨hx, hb, hml, hown, hts⟩ (t_look l G _ mo ad x (x.1 6) hi) (cwV 1 hts (nn_gV mw_1032 mw_1029 mw_1031 mw_47 mw_94) rfl rfl rfl (by decide +kernel) ⟨Nat.le_of_ble_eq_true rfl, Nat.le_of_ble_eq_true rfl⟩) (nn_preV (va_recv hK hP rfl (q0 := 0) rfl) hP hD hK hN) rfl rfl hl.1 rfl (lv_room (Nat.le_of_ble_eq_true rfl)) d_Mo_peek_26 ⟨Nat.le_of_ble_eq_true rfl, Nat.le_of_ble_eq_true rfl⟩) hS (fun q _ h => hFc q h) hFc (fun u t H locs ht hvm hw hB hz1 hk1 hS => ?_)
  obtain ⟨hP1, hD1⟩ := hB
  rw [ht] at hP1
  have hP := hP1
  have hD := hD1.weaken (fun _ _ _ h => hFc _ h)
  refine lv_aload_n hx hb d_Mo_peek_29 rfl (lv_at hl 4 rfl) ?_
  refine nm_get hx hb hg hown hK hP 3 (by decide) (by decide) (hg _ mw_893) d_Mo_peek_30 ?_
  refine lv_istore (lv' := [(5, .int ((m_look x (x.1 6)).1 3)), (4, .int (x.1 6)), (3, .int (x.1 5)), (2, .int (x.1 4)), (1, .int (x.1 3)), (0, .ref mo)]) hx hb d_Mo_peek_33 hl (by decide) rfl (fun ls hl => ?_)
  refine lv_aload_n hx hb d_Mo_peek_35 rfl (lv_at hl 5 rfl) ?_
  refine lv_iload_n hx hb d_Mo_peek_36 rfl (lv_at hl 4 rfl) ?_
  refine nm_put hx hb hg hown hK hP hD hS 3 (by decide) (by decide) (by decide) (hg _ mw_893) d_Mo_peek_37 (fun H locs hP hD hS => ?_)
  refine lv_aload_n hx hb d_Mo_peek_40 rfl (lv_at hl 5 rfl) ?_
  refine lv_iload_n hx hb d_Mo_peek_41 rfl (lv_at hl 3 rfl) ?_
  refine nm_put hx hb hg hown hK hP hD hS 4 (by decide) (by decide) (by decide) (hg _ mw_894) d_Mo_peek_42 (fun H locs hP hD hS => ?_)
  refine lv_aload_n hx hb d_Mo_peek_45 rfl (lv_at hl 5 rfl) ?_
  refine lv_iload_n hx hb d_Mo_peek_46 rfl (lv_at hl 2 rfl) ?_
  refine nm_put hx hb hg hown hK hP hD hS 5 (by decide) (by decide) (by decide) (hg _ mw_895) d_Mo_peek_47 (fun H locs hP hD hS => ?_)
  refine lv_aload_n hx hb d_Mo_peek_50 rfl (lv_at hl 5 rfl) ?_
  refine lv_iload hx hb d_Mo_peek_51 (lv_at hl 1 rfl) ?_
  refine nm_put hx hb hg hown hK hP hD hS 6 (by decide) (by decide) (by decide) (hg _ mw_896) d_Mo_peek_53 (fun H locs hP hD hS => ?_)
  refine lv_iload hx hb d_Mo_peek_56 (lv_at hl 0 rfl) ?_
  have hR : m_peek x = (nm_f (nm_f (nm_f (nm_f (m_look x (x.1 6)) 3 (x.1 3)) 4 (x.1 4)) 5 (x.1 5)) 6 (x.1 6), (m_look x (x.1 6)).1 3) := by rw [m_peek]
  refine nm_W2 hR ?_
  exact W.iret (v := (m_look x (x.1 6)).1 3) hx hb hr (fun t ht hW => ⟨⟨(m_look x (x.1 6)).1 3, (), rfl, rfl, ⟨by rw [ht]; exact hP, hD⟩⟩, hS.F ht⟩) hS.2.2 d_Mo_peek_58

theorem mw_905 : (.fieldLink R_Mo 124 R_Mo "names" "I" : Cond) ∈ nn_gw := nn_at 905 (by decide +kernel) (by decide +kernel)
theorem mw_906 : (.fieldLink R_Mo 30 R_Mo "name" "[I" : Cond) ∈ nn_gw := nn_at 906 (by decide +kernel) (by decide +kernel)
theorem d_Mo_find_0 : decode b_Mo_find 0 = .ok (.aload_n 0, 1) := by decide +kernel
theorem d_Mo_find_1 : decode b_Mo_find 1 = .ok (.getfield 124, 3) := by decide +kernel
theorem d_Mo_find_4 : decode b_Mo_find 4 = .ok (.iconst 1, 1) := by decide +kernel
theorem d_Mo_find_5 : decode b_Mo_find 5 = .ok (.isub, 1) := by decide +kernel
theorem d_Mo_find_6 : decode b_Mo_find 6 = .ok (.istore_n 2, 1) := by decide +kernel
theorem d_Mo_find_7 : decode b_Mo_find 7 = .ok (.iload_n 2, 1) := by decide +kernel
theorem d_Mo_find_8 : decode b_Mo_find 8 = .ok (.ifCond .lt 19, 3) := by decide +kernel
theorem d_Mo_find_11 : decode b_Mo_find 11 = .ok (.aload_n 0, 1) := by decide +kernel
theorem d_Mo_find_12 : decode b_Mo_find 12 = .ok (.getfield 30, 3) := by decide +kernel
theorem d_Mo_find_15 : decode b_Mo_find 15 = .ok (.iload_n 2, 1) := by decide +kernel
theorem d_Mo_find_16 : decode b_Mo_find 16 = .ok (.iaload, 1) := by decide +kernel
theorem d_Mo_find_17 : decode b_Mo_find 17 = .ok (.iload_n 1, 1) := by decide +kernel
theorem d_Mo_find_18 : decode b_Mo_find 18 = .ok (.if_icmp .eq 9, 3) := by decide +kernel
theorem d_Mo_find_21 : decode b_Mo_find 21 = .ok (.iinc 2 (-1), 3) := by decide +kernel
theorem d_Mo_find_24 : decode b_Mo_find 24 = .ok (.goto (-17), 3) := by decide +kernel
theorem d_Mo_find_27 : decode b_Mo_find 27 = .ok (.iload_n 2, 1) := by decide +kernel
theorem d_Mo_find_28 : decode b_Mo_find 28 = .ok (.ireturn, 1) := by decide +kernel

def k_find_27 (x : nM) (v2 : Int32) : Int32 := v2
def p_find_27 (x : nM) (v2 : Int32) : Prop := True
def k_find_7 : Nat → nM → Int32 → Int32 → Int32
  | 0, _, _, _ => 0
  | n + 1, x, v1, v2 => (if v2 < 0 then k_find_27 x v2 else (if nm_g x 16 v2 = v1 then k_find_27 x v2 else k_find_7 n x v1 (v2 + (-1))))
def p_find_7 : Nat → nM → Int32 → Int32 → Prop
  | 0, _, _, _ => False
  | n + 1, x, v1, v2 => ((v2 < 0 → p_find_27 x v2) ∧ (¬ (v2 < 0) → vp_in v2 100 ∧ ((nm_g x 16 v2 = v1 → p_find_27 x v2) ∧ (¬ (nm_g x 16 v2 = v1) → p_find_7 n x v1 (v2 + (-1))))))
def m_find (x : nM) (a1 : Int32) : Int32 := k_find_7 300 x a1 ((x.1 15) - 1)
def o_find (x : nM) (a1 : Int32) : Prop := p_find_7 300 x a1 ((x.1 15) - 1)
set_option maxHeartbeats 4000000 in
set_option maxRecDepth 100000 in
theorem t_find (l : Launch) (G : nn_G) (sz : Nat) (mo : Nat) (ad : Nat → Nat) (x : nM) (a1 : Int32) (hk : o_find x a1) : Met l y_Mo_find w_Mo_find ({ frames := 0, cells := 0, slots := 0, locals := 0 }) (nn_P G [.ref mo, .int a1] (nm_W G mo ad x) sz) (vp_Si (fun r => r = m_find x a1)) 0 0 (fun _ => False) := by
  refine Met.ofW (cc := b_Mo_find) (maxL := 3) (ret := some .int) (by decide) rfl ?_
  intro p e s m args below meth c s₁ B hml hv
  obtain ⟨rfl, hsz, hP, hK, hD0, hN⟩ := hv
  have hx := B.exec
  have hb := B.bytes
  have hr := B.returns
  have hts := atoms_spec (ws := w_Mo_find) B.pre
  have hg : ∀ w ∈ nn_gw, w.before _ s = true := fun w h => hts w (List.mem_cons_of_mem _ h)
  have hown : s.vm.findClass R_Mo = some m.cls := findClass_of_methodNamed B.named
  subst hsz
  have hD := hD0
  have hP : va_P G.1 nn_cls (nm_W G mo ad x) s.heap := hP
  have hl := lv_entry ([.ref mo, .int a1]) (n := 3) (Nat.le_of_ble_eq_true rfl)
  rw [lg_entry_eq]
  generalize (lg_sl ([.ref mo, .int a1]) ++ List.replicate (3 - (lg_sl ([.ref mo, .int a1])).length) Slot.unset).toArray = ls at hl ⊢
  have hl : lv_has ls 3 [(0, .ref mo), (1, .int a1)] := hl
  have J27 : ∀ (v2 : Int32) (ls : Array Slot), p_find_27 x v2 → lv_has ls 3 [(2, .int v2)] → W p l e (headSpec w_Mo_find ({ frames := 0, cells := 0, slots := 0, locals := 0 })).room s m [.ref mo, .int a1].toArray below meth c s.heap [] 0 0 (MQ below (vp_Si (fun r => r = k_find_27 x v2)) [.ref mo, .int a1].toArray s 0 0 (fun _ => False)) (F0 m 27 ls []) := by
    intro v2 ls hk hl
    unfold p_find_27 at hk
    refine lv_iload_n hx hb d_Mo_find_27 rfl (lv_at hl 0 rfl) ?_
    have hR : k_find_27 x v2 = v2 := by rw [k_find_27]
    exact W.iret (v := v2) hx hb hr (fun t ht hW => ⟨v2, rfl, hR.symm, ht⟩) (fun q h => by cases h) d_Mo_find_28
  have J7 : ∀ (n : Nat) (v1 : Int32) (v2 : Int32) (ls : Array Slot), p_find_7 n x v1 v2 → lv_has ls 3 [(0, .ref mo), (1, .int v1), (2, .int v2)] → W p l e (headSpec w_Mo_find ({ frames := 0, cells := 0, slots := 0, locals := 0 })).room s m [.ref mo, .int a1].toArray below meth c s.heap [] 0 0 (MQ below (vp_Si (fun r => r = k_find_7 n x v1 v2)) [.ref mo, .int a1].toArray s 0 0 (fun _ => False)) (F0 m 7 ls []) := by
    intro n
    induction n with
    | zero =>
      intro v1 v2 ls hk
      exact (show False from hk).elim
    | succ n ih =>
      intro v1 v2 ls hk hl
      unfold p_find_7 at hk
      refine lv_iload_n hx hb d_Mo_find_7 rfl (lv_at hl 2 rfl) ?_
      refine lv_if_lt (tgt := 27) hx hb d_Mo_find_8 rfl (fun hc8 => ?_) (fun hc8 => ?_)
      · skip
        have hk := hk.1 hc8
        have hl := lv_sub (l' := [(2, .int v2)]) hl [2] rfl
        have hR : k_find_7 (n + 1) x v1 v2 = k_find_27 x v2 := by rw [k_find_7]; rw [if_pos hc8]
        exact nm_W3 hR (J27 v2 ls hk hl)
      · skip
        have hk := hk.2 hc8
        refine lv_aload_n hx hb d_Mo_find_11 rfl (lv_at hl 0 rfl) ?_
        refine nm_getA hx hb hg hown hK hP 16 (by decide) (by decide) (hg _ mw_906) d_Mo_find_12 ?_
        refine lv_iload_n hx hb d_Mo_find_15 rfl (lv_at hl 2 rfl) ?_
        obtain ⟨hi, hk⟩ := hk
        refine nm_ld hx hb hK hP 16 4 rfl (by decide) hi d_Mo_find_16 ?_
        refine lv_iload_n hx hb d_Mo_find_17 rfl (lv_at hl 1 rfl) ?_
        refine lv_icmp_eq (tgt := 27) hx hb d_Mo_find_18 rfl (fun hc18 => ?_) (fun hc18 => ?_)
        · skip
          have hk := hk.1 hc18
          have hl := lv_sub (l' := [(2, .int v2)]) hl [2] rfl
          have hR : k_find_7 (n + 1) x v1 v2 = k_find_27 x v2 := by rw [k_find_7]; rw [if_neg hc8]; rw [if_pos hc18]
          exact nm_W3 hR (J27 v2 ls hk hl)
        · skip
          have hk := hk.2 hc18
          refine lv_iinc (k := 2) (v := v2 + (-1)) (lv' := [(2, .int (v2 + (-1))), (0, .ref mo), (1, .int v1)]) hx hb d_Mo_find_21 hl rfl (by rw [show Int32.ofInt (-1) = (-1 : Int32) by decide]) (by decide) rfl (fun ls hl => ?_)
          refine lv_goto (tgt := 7) hx hb d_Mo_find_24 rfl ?_
          have hl := lv_sub (l' := [(0, .ref mo), (1, .int v1), (2, .int (v2 + (-1)))]) hl [1, 2, 0] rfl
          have hR : k_find_7 (n + 1) x v1 v2 = k_find_7 n x v1 (v2 + (-1)) := by rw [k_find_7]; rw [if_neg hc8]; rw [if_neg hc18]
          exact nm_W3 hR (ih v1 (v2 + (-1)) ls hk hl)
  unfold o_find at hk
  refine lv_aload_n hx hb d_Mo_find_0 rfl (lv_at hl 0 rfl) ?_
  refine nm_get hx hb hg hown hK hP 15 (by decide) (by decide) (hg _ mw_905) d_Mo_find_1 ?_
  refine lv_iconst (v := 1) hx hb d_Mo_find_4 (by decide) ?_
  refine lv_isub hx hb d_Mo_find_5 ?_
  refine lv_istore_n (lv' := [(2, .int ((x.1 15) - 1)), (0, .ref mo), (1, .int a1)]) hx hb d_Mo_find_6 rfl hl (by decide) rfl (fun ls hl => ?_)
  have hl := lv_sub (l' := [(0, .ref mo), (1, .int a1), (2, .int ((x.1 15) - 1))]) hl [1, 2, 0] rfl
  have hR : m_find x a1 = k_find_7 300 x a1 ((x.1 15) - 1) := by rw [m_find]
  exact nm_W3 hR (J7 300 a1 ((x.1 15) - 1) ls hk hl)

theorem mw_55 : (.selects R_Mo y_Mo_find y_Mo_find : Cond) ∈ nn_gw := nn_at 55 (by decide +kernel) (by decide +kernel)
theorem mw_907 : (.fieldLink R_Mo 33 R_Mo "kind" "[I" : Cond) ∈ nn_gw := nn_at 907 (by decide +kernel) (by decide +kernel)
theorem mw_908 : (.fieldLink R_Mo 36 R_Mo "nameLevel" "[I" : Cond) ∈ nn_gw := nn_at 908 (by decide +kernel) (by decide +kernel)
theorem mw_909 : (.fieldLink R_Mo 39 R_Mo "address" "[I" : Cond) ∈ nn_gw := nn_at 909 (by decide +kernel) (by decide +kernel)
theorem mw_910 : (.fieldLink R_Mo 42 R_Mo "many" "[I" : Cond) ∈ nn_gw := nn_at 910 (by decide +kernel) (by decide +kernel)
theorem mw_911 : (.fieldLink R_Mo 130 R_Mo "level" "I" : Cond) ∈ nn_gw := nn_at 911 (by decide +kernel) (by decide +kernel)
theorem mw_1073 : (.methodLink R_Mo 127 y_Mo_find : Cond) ∈ nn_gw := nn_at 1073 (by decide +kernel) (by decide +kernel)
theorem mw_1075 : (.instanceMethod y_Mo_find : Cond) ∈ nn_gw := nn_at 1075 (by decide +kernel) (by decide +kernel)
set_option maxRecDepth 100000 in
theorem mw_1076 : (.code y_Mo_find b_Mo_find 3 (some .int) : Cond) ∈ nn_gw := nn_at 1076 (by rfl) (by decide +kernel)
theorem d_Mo_declare_0 : decode b_Mo_declare 0 = .ok (.aload_n 0, 1) := by decide +kernel
theorem d_Mo_declare_1 : decode b_Mo_declare 1 = .ok (.aload_n 0, 1) := by decide +kernel
theorem d_Mo_declare_2 : decode b_Mo_declare 2 = .ok (.getfield 85, 3) := by decide +kernel
theorem d_Mo_declare_5 : decode b_Mo_declare 5 = .ok (.invokevirtual 127, 3) := by decide +kernel
theorem d_Mo_declare_8 : decode b_Mo_declare 8 = .ok (.istore 4, 2) := by decide +kernel
theorem d_Mo_declare_10 : decode b_Mo_declare 10 = .ok (.aload_n 0, 1) := by decide +kernel
theorem d_Mo_declare_11 : decode b_Mo_declare 11 = .ok (.getfield 88, 3) := by decide +kernel
theorem d_Mo_declare_14 : decode b_Mo_declare 14 = .ok (.iconst 2, 1) := by decide +kernel
theorem d_Mo_declare_15 : decode b_Mo_declare 15 = .ok (.if_icmp .eq 15, 3) := by decide +kernel
theorem d_Mo_declare_18 : decode b_Mo_declare 18 = .ok (.aload_n 0, 1) := by decide +kernel
theorem d_Mo_declare_19 : decode b_Mo_declare 19 = .ok (.iconst 1, 1) := by decide +kernel
theorem d_Mo_declare_20 : decode b_Mo_declare 20 = .ok (.aload_n 0, 1) := by decide +kernel
theorem d_Mo_declare_21 : decode b_Mo_declare 21 = .ok (.getfield 78, 3) := by decide +kernel
theorem d_Mo_declare_24 : decode b_Mo_declare 24 = .ok (.invokevirtual 120, 3) := by decide +kernel
theorem d_Mo_declare_27 : decode b_Mo_declare 27 = .ok (.goto 31, 3) := by decide +kernel
theorem d_Mo_declare_30 : decode b_Mo_declare 30 = .ok (.iload 4, 2) := by decide +kernel
theorem d_Mo_declare_32 : decode b_Mo_declare 32 = .ok (.ifCond .lt 26, 3) := by decide +kernel
theorem d_Mo_declare_35 : decode b_Mo_declare 35 = .ok (.aload_n 0, 1) := by decide +kernel
theorem d_Mo_declare_36 : decode b_Mo_declare 36 = .ok (.getfield 36, 3) := by decide +kernel
theorem d_Mo_declare_39 : decode b_Mo_declare 39 = .ok (.iload 4, 2) := by decide +kernel
theorem d_Mo_declare_41 : decode b_Mo_declare 41 = .ok (.iaload, 1) := by decide +kernel
theorem d_Mo_declare_42 : decode b_Mo_declare 42 = .ok (.aload_n 0, 1) := by decide +kernel
theorem d_Mo_declare_43 : decode b_Mo_declare 43 = .ok (.getfield 130, 3) := by decide +kernel
theorem d_Mo_declare_46 : decode b_Mo_declare 46 = .ok (.if_icmp .ne 12, 3) := by decide +kernel
theorem d_Mo_declare_49 : decode b_Mo_declare 49 = .ok (.aload_n 0, 1) := by decide +kernel
theorem d_Mo_declare_50 : decode b_Mo_declare 50 = .ok (.iconst 3, 1) := by decide +kernel
theorem d_Mo_declare_51 : decode b_Mo_declare 51 = .ok (.aload_n 0, 1) := by decide +kernel
theorem d_Mo_declare_52 : decode b_Mo_declare 52 = .ok (.getfield 78, 3) := by decide +kernel
theorem d_Mo_declare_55 : decode b_Mo_declare 55 = .ok (.invokevirtual 120, 3) := by decide +kernel
theorem d_Mo_declare_58 : decode b_Mo_declare 58 = .ok (.aload_n 0, 1) := by decide +kernel
theorem d_Mo_declare_59 : decode b_Mo_declare 59 = .ok (.getfield 30, 3) := by decide +kernel
theorem d_Mo_declare_62 : decode b_Mo_declare 62 = .ok (.aload_n 0, 1) := by decide +kernel
theorem d_Mo_declare_63 : decode b_Mo_declare 63 = .ok (.getfield 124, 3) := by decide +kernel
theorem d_Mo_declare_66 : decode b_Mo_declare 66 = .ok (.aload_n 0, 1) := by decide +kernel
theorem d_Mo_declare_67 : decode b_Mo_declare 67 = .ok (.getfield 85, 3) := by decide +kernel
theorem d_Mo_declare_70 : decode b_Mo_declare 70 = .ok (.iastore, 1) := by decide +kernel
theorem d_Mo_declare_71 : decode b_Mo_declare 71 = .ok (.aload_n 0, 1) := by decide +kernel
theorem d_Mo_declare_72 : decode b_Mo_declare 72 = .ok (.getfield 33, 3) := by decide +kernel
theorem d_Mo_declare_75 : decode b_Mo_declare 75 = .ok (.aload_n 0, 1) := by decide +kernel
theorem d_Mo_declare_76 : decode b_Mo_declare 76 = .ok (.getfield 124, 3) := by decide +kernel
theorem d_Mo_declare_79 : decode b_Mo_declare 79 = .ok (.iload_n 1, 1) := by decide +kernel
theorem d_Mo_declare_80 : decode b_Mo_declare 80 = .ok (.iastore, 1) := by decide +kernel
theorem d_Mo_declare_81 : decode b_Mo_declare 81 = .ok (.aload_n 0, 1) := by decide +kernel
theorem d_Mo_declare_82 : decode b_Mo_declare 82 = .ok (.getfield 36, 3) := by decide +kernel
theorem d_Mo_declare_85 : decode b_Mo_declare 85 = .ok (.aload_n 0, 1) := by decide +kernel
theorem d_Mo_declare_86 : decode b_Mo_declare 86 = .ok (.getfield 124, 3) := by decide +kernel
theorem d_Mo_declare_89 : decode b_Mo_declare 89 = .ok (.aload_n 0, 1) := by decide +kernel
theorem d_Mo_declare_90 : decode b_Mo_declare 90 = .ok (.getfield 130, 3) := by decide +kernel
theorem d_Mo_declare_93 : decode b_Mo_declare 93 = .ok (.iastore, 1) := by decide +kernel
theorem d_Mo_declare_94 : decode b_Mo_declare 94 = .ok (.aload_n 0, 1) := by decide +kernel
theorem d_Mo_declare_95 : decode b_Mo_declare 95 = .ok (.getfield 39, 3) := by decide +kernel
theorem d_Mo_declare_98 : decode b_Mo_declare 98 = .ok (.aload_n 0, 1) := by decide +kernel
theorem d_Mo_declare_99 : decode b_Mo_declare 99 = .ok (.getfield 124, 3) := by decide +kernel
theorem d_Mo_declare_102 : decode b_Mo_declare 102 = .ok (.iload_n 2, 1) := by decide +kernel
theorem d_Mo_declare_103 : decode b_Mo_declare 103 = .ok (.iastore, 1) := by decide +kernel
theorem d_Mo_declare_104 : decode b_Mo_declare 104 = .ok (.aload_n 0, 1) := by decide +kernel
theorem d_Mo_declare_105 : decode b_Mo_declare 105 = .ok (.getfield 42, 3) := by decide +kernel
theorem d_Mo_declare_108 : decode b_Mo_declare 108 = .ok (.aload_n 0, 1) := by decide +kernel
theorem d_Mo_declare_109 : decode b_Mo_declare 109 = .ok (.getfield 124, 3) := by decide +kernel
theorem d_Mo_declare_112 : decode b_Mo_declare 112 = .ok (.iload_n 3, 1) := by decide +kernel
theorem d_Mo_declare_113 : decode b_Mo_declare 113 = .ok (.iastore, 1) := by decide +kernel
theorem d_Mo_declare_114 : decode b_Mo_declare 114 = .ok (.aload_n 0, 1) := by decide +kernel
theorem d_Mo_declare_115 : decode b_Mo_declare 115 = .ok (.dup, 1) := by decide +kernel
theorem d_Mo_declare_116 : decode b_Mo_declare 116 = .ok (.getfield 124, 3) := by decide +kernel
theorem d_Mo_declare_119 : decode b_Mo_declare 119 = .ok (.iconst 1, 1) := by decide +kernel
theorem d_Mo_declare_120 : decode b_Mo_declare 120 = .ok (.iadd, 1) := by decide +kernel
theorem d_Mo_declare_121 : decode b_Mo_declare 121 = .ok (.putfield 124, 3) := by decide +kernel
theorem d_Mo_declare_124 : decode b_Mo_declare 124 = .ok (.aload_n 0, 1) := by decide +kernel
theorem d_Mo_declare_125 : decode b_Mo_declare 125 = .ok (.invokevirtual 117, 3) := by decide +kernel
theorem d_Mo_declare_128 : decode b_Mo_declare 128 = .ok (.return_, 1) := by decide +kernel

def k_declare_58 (x : nM) (v1 : Int32) (v2 : Int32) (v3 : Int32) : nM := (m_goOn (nm_f (nm_a (nm_a (nm_a (nm_a (nm_a x 16 (x.1 15) (x.1 5)) 17 (x.1 15) v1) 18 (x.1 15) (x.1 21)) 19 (x.1 15) v2) 20 (x.1 15) v3) 15 ((x.1 15) + 1)))
def p_declare_58 (x : nM) (v1 : Int32) (v2 : Int32) (v3 : Int32) : Prop := vp_in (x.1 15) 100 ∧ vp_in (x.1 15) 100 ∧ vp_in (x.1 15) 100 ∧ vp_in (x.1 15) 100 ∧ vp_in (x.1 15) 100 ∧ o_goOn (nm_f (nm_a (nm_a (nm_a (nm_a (nm_a x 16 (x.1 15) (x.1 5)) 17 (x.1 15) v1) 18 (x.1 15) (x.1 21)) 19 (x.1 15) v2) 20 (x.1 15) v3) 15 ((x.1 15) + 1)) ∧ True
def m_declare (x : nM) (a1 : Int32) (a2 : Int32) (a3 : Int32) : nM := (if x.1 3 = 2 then (if m_find x (x.1 5) < 0 then k_declare_58 x a1 a2 a3 else (if nm_g x 18 (m_find x (x.1 5)) = x.1 21 then k_declare_58 (m_fail x 3 (x.1 4)) a1 a2 a3 else k_declare_58 x a1 a2 a3)) else k_declare_58 (m_fail x 1 (x.1 4)) a1 a2 a3)
def o_declare (x : nM) (a1 : Int32) (a2 : Int32) (a3 : Int32) : Prop := o_find x (x.1 5) ∧ ((x.1 3 = 2 → ((m_find x (x.1 5) < 0 → p_declare_58 x a1 a2 a3) ∧ (¬ (m_find x (x.1 5) < 0) → vp_in (m_find x (x.1 5)) 100 ∧ ((nm_g x 18 (m_find x (x.1 5)) = x.1 21 → p_declare_58 (m_fail x 3 (x.1 4)) a1 a2 a3) ∧ (¬ (nm_g x 18 (m_find x (x.1 5)) = x.1 21) → p_declare_58 x a1 a2 a3))))) ∧ (¬ (x.1 3 = 2) → p_declare_58 (m_fail x 1 (x.1 4)) a1 a2 a3))
set_option maxHeartbeats 4000000 in
set_option maxRecDepth 100000 in
theorem t_declare (l : Launch) (G : nn_G) (sz : Nat) (mo : Nat) (ad : Nat → Nat) (x : nM) (a1 : Int32) (a2 : Int32) (a3 : Int32) (hk : o_declare x a1 a2 a3) : Met l y_Mo_declare w_Mo_declare ({ frames := 3, cells := 0, slots := 0, locals := 64 }) (nn_P G [.ref mo, .int a1, .int a2, .int a3] (nm_W G mo ad x) sz) (nm_Qv G mo ad (m_declare x a1 a2 a3) (va_A (nm_W G mo ad x) sz)) 0 0 (va_A (nm_W G mo ad x) sz) := by
  refine Met.ofW (cc := b_Mo_declare) (maxL := 5) (ret := none) (by decide) rfl ?_
  intro p e s m args below meth c s₁ B hml hv
  obtain ⟨rfl, hsz, hP, hK, hD0, hN⟩ := hv
  have hx := B.exec
  have hb := B.bytes
  have hr := B.returns
  have hts := atoms_spec (ws := w_Mo_declare) B.pre
  have hg : ∀ w ∈ nn_gw, w.before _ s = true := fun w h => hts w (List.mem_cons_of_mem _ h)
  have hown : s.vm.findClass R_Mo = some m.cls := findClass_of_methodNamed B.named
  subst hsz
  have hD := hD0.self (sz := s.heap.size)
  generalize hAe : va_A (nm_W G mo ad x) s.heap.size = A at hD ⊢
  have hA : ∀ q : Nat, s.heap.size ≤ q → A q := fun q h => by rw [← hAe]; exact Or.inr h
  clear hAe
  have hS : va_S A s.heap s.heap [] := va_S.rf
  have hP : va_P G.1 nn_cls (nm_W G mo ad x) s.heap := hP
  have hl := lv_entry ([.ref mo, .int a1, .int a2, .int a3]) (n := 5) (Nat.le_of_ble_eq_true rfl)
  rw [lg_entry_eq]
  generalize (lg_sl ([.ref mo, .int a1, .int a2, .int a3]) ++ List.replicate (5 - (lg_sl ([.ref mo, .int a1, .int a2, .int a3])).length) Slot.unset).toArray = ls at hl ⊢
  have hl : lv_has ls 5 [(0, .ref mo), (1, .int a1), (2, .int a2), (3, .int a3)] := hl
  have J58 : ∀ (x : nM) (v1 : Int32) (v2 : Int32) (v3 : Int32) (ls : Array Slot) (H : Heap) (locs : List Loc), p_declare_58 x v1 v2 v3 → lv_has ls 5 [(0, .ref mo), (1, .int v1), (2, .int v2), (3, .int v3)] → va_P G.1 nn_cls (nm_W G mo ad x) H → va_D A (nm_W G mo ad x) → va_S A s.heap H locs → W p l e (headSpec w_Mo_declare ({ frames := 3, cells := 0, slots := 0, locals := 64 })).room s m [.ref mo, .int a1, .int a2, .int a3].toArray below meth c H locs 0 0 (MQ below (nm_Qv G mo ad (k_declare_58 x v1 v2 v3) A) [.ref mo, .int a1, .int a2, .int a3].toArray s 0 0 A) (F0 m 58 ls []) := by
    intro x v1 v2 v3 ls H locs hk hl hP hD hS
    unfold p_declare_58 at hk
    refine lv_aload_n hx hb d_Mo_declare_58 rfl (lv_at hl 0 rfl) ?_
    refine nm_getA hx hb hg hown hK hP 16 (by decide) (by decide) (hg _ mw_906) d_Mo_declare_59 ?_
    refine lv_aload_n hx hb d_Mo_declare_62 rfl (lv_at hl 0 rfl) ?_
    refine nm_get hx hb hg hown hK hP 15 (by decide) (by decide) (hg _ mw_905) d_Mo_declare_63 ?_
    refine lv_aload_n hx hb d_Mo_declare_66 rfl (lv_at hl 0 rfl) ?_
    refine nm_get hx hb hg hown hK hP 5 (by decide) (by decide) (hg _ mw_895) d_Mo_declare_67 ?_
    obtain ⟨hi, hk⟩ := hk
    refine nm_st hx hb hK hP hD hS 16 4 rfl (by decide) hi d_Mo_declare_70 (fun H locs hP hD hS => ?_)
    refine lv_aload_n hx hb d_Mo_declare_71 rfl (lv_at hl 0 rfl) ?_
    refine nm_getA hx hb hg hown hK hP 17 (by decide) (by decide) (hg _ mw_907) d_Mo_declare_72 ?_
    refine lv_aload_n hx hb d_Mo_declare_75 rfl (lv_at hl 0 rfl) ?_
    refine nm_get hx hb hg hown hK hP 15 (by decide) (by decide) (hg _ mw_905) d_Mo_declare_76 ?_
    refine nb_top (x.1 15) rfl ?_
    refine lv_iload_n hx hb d_Mo_declare_79 rfl (lv_at hl 1 rfl) ?_
    obtain ⟨hi, hk⟩ := hk
    refine nm_st hx hb hK hP hD hS 17 5 rfl (by decide) hi d_Mo_declare_80 (fun H locs hP hD hS => ?_)
    refine lv_aload_n hx hb d_Mo_declare_81 rfl (lv_at hl 0 rfl) ?_
    refine nm_getA hx hb hg hown hK hP 18 (by decide) (by decide) (hg _ mw_908) d_Mo_declare_82 ?_
    refine lv_aload_n hx hb d_Mo_declare_85 rfl (lv_at hl 0 rfl) ?_
    refine nm_get hx hb hg hown hK hP 15 (by decide) (by decide) (hg _ mw_905) d_Mo_declare_86 ?_
    refine nb_top (x.1 15) rfl ?_
    refine lv_aload_n hx hb d_Mo_declare_89 rfl (lv_at hl 0 rfl) ?_
    refine nm_get hx hb hg hown hK hP 21 (by decide) (by decide) (hg _ mw_911) d_Mo_declare_90 ?_
    refine nb_top (x.1 21) rfl ?_
    obtain ⟨hi, hk⟩ := hk
    refine nm_st hx hb hK hP hD hS 18 6 rfl (by decide) hi d_Mo_declare_93 (fun H locs hP hD hS => ?_)
    refine lv_aload_n hx hb d_Mo_declare_94 rfl (lv_at hl 0 rfl) ?_
    refine nm_getA hx hb hg hown hK hP 19 (by decide) (by decide) (hg _ mw_909) d_Mo_declare_95 ?_
    refine lv_aload_n hx hb d_Mo_declare_98 rfl (lv_at hl 0 rfl) ?_
    refine nm_get hx hb hg hown hK hP 15 (by decide) (by decide) (hg _ mw_905) d_Mo_declare_99 ?_
    refine nb_top (x.1 15) rfl ?_
    refine lv_iload_n hx hb d_Mo_declare_102 rfl (lv_at hl 2 rfl) ?_
    obtain ⟨hi, hk⟩ := hk
    refine nm_st hx hb hK hP hD hS 19 7 rfl (by decide) hi d_Mo_declare_103 (fun H locs hP hD hS => ?_)
    refine lv_aload_n hx hb d_Mo_declare_104 rfl (lv_at hl 0 rfl) ?_
    refine nm_getA hx hb hg hown hK hP 20 (by decide) (by decide) (hg _ mw_910) d_Mo_declare_105 ?_
    refine lv_aload_n hx hb d_Mo_declare_108 rfl (lv_at hl 0 rfl) ?_
    refine nm_get hx hb hg hown hK hP 15 (by decide) (by decide) (hg _ mw_905) d_Mo_declare_109 ?_
    refine nb_top (x.1 15) rfl ?_
    refine lv_iload_n hx hb d_Mo_declare_112 rfl (lv_at hl 3 rfl) ?_
    obtain ⟨hi, hk⟩ := hk
    refine nm_st hx hb hK hP hD hS 20 8 rfl (by decide) hi d_Mo_declare_113 (fun H locs hP hD hS => ?_)
    refine lv_aload_n hx hb d_Mo_declare_114 rfl (lv_at hl 0 rfl) ?_
    refine lv_dup hx hb d_Mo_declare_115 rfl ?_
    refine nm_get hx hb hg hown hK hP 15 (by decide) (by decide) (hg _ mw_905) d_Mo_declare_116 ?_
    refine nb_top (x.1 15) rfl ?_
    refine lv_iconst (v := 1) hx hb d_Mo_declare_119 (by decide) ?_
    refine lv_iadd hx hb d_Mo_declare_120 ?_
    refine nm_put hx hb hg hown hK hP hD hS 15 (by decide) (by decide) (by decide) (hg _ mw_905) d_Mo_declare_121 (fun H locs hP hD hS => ?_)
    refine lv_aload_n hx hb d_Mo_declare_124 rfl (lv_at hl 0 rfl) ?_
    obtain ⟨hi, hk⟩ := hk
    have hFc := nm_free hD hS hA
    refine va_callv (va_runV (As := []) (rest := []) ⟨hx, hb, hml, hown, hts⟩ (t_goOn l G _ mo ad (nm_f (nm_a (nm_a (nm_a (nm_a (nm_a x 16 (x.1 15) (x.1 5)) 17 (x.1 15) v1) 18 (x.1 15) (x.1 21)) 19 (x.1 15) v2) 20 (x.1 15) v3) 15 ((x.1 15) + 1)) hi) (cwV 0 hts (nn_gV mw_1068 mw_1065 mw_1067 mw_53 mw_94) rfl rfl rfl (by decide +kernel) ⟨Nat.le_of_ble_eq_true rfl, Nat.le_of_ble_eq_true rfl⟩) (nn_preV (va_recv hK hP rfl (q0 := 0) rfl) hP hD hK hN) rfl rfl hl.1 rfl (lv_room (Nat.le_of_ble_eq_true rfl)) d_Mo_declare_125 ⟨Nat.le_of_ble_eq_true rfl, Nat.le_of_ble_eq_true rfl⟩) hS (fun q _ h => hFc q h) hFc (fun u t H locs ht hvm hw hB hz1 hk1 hS => ?_)
    obtain ⟨hP1, hD1⟩ := hB
    rw [ht] at hP1
    have hP := hP1
    have hD := hD1.weaken (fun _ _ _ h => hFc _ h)
    have hR : k_declare_58 x v1 v2 v3 = m_goOn (nm_f (nm_a (nm_a (nm_a (nm_a (nm_a x 16 (x.1 15) (x.1 5)) 17 (x.1 15) v1) 18 (x.1 15) (x.1 21)) 19 (x.1 15) v2) 20 (x.1 15) v3) 15 ((x.1 15) + 1)) := by rw [k_declare_58]
    refine nm_W1 hR ?_
    exact W.vret hx hb hr (fun t ht hW => ⟨⟨(), rfl, trivial, ⟨by rw [ht]; exact hP, hD⟩⟩, hS.F ht⟩) hS.2.2 d_Mo_declare_128
  unfold o_declare at hk
  refine lv_aload_n hx hb d_Mo_declare_0 rfl (lv_at hl 0 rfl) ?_
  refine lv_aload_n hx hb d_Mo_declare_1 rfl (lv_at hl 0 rfl) ?_
  refine nm_get hx hb hg hown hK hP 5 (by decide) (by decide) (hg _ mw_895) d_Mo_declare_2 ?_
  obtain ⟨hi, hk⟩ := hk
  refine vp_callSi (va_Run.run (va_runV (As := [.int (x.1 5)]) (rest := []) ⟨hx, hb, hml, hown, hts⟩ (t_find l G _ mo ad x (x.1 5) hi) (cwV 1 hts (nn_gV mw_1076 mw_1073 mw_1075 mw_55 mw_94) rfl rfl rfl (by decide +kernel) ⟨Nat.le_of_ble_eq_true rfl, Nat.le_of_ble_eq_true rfl⟩) (nn_preV (va_recv hK hP rfl (q0 := 0) rfl) hP hD hK hN) rfl rfl hl.1 rfl (lv_room (Nat.le_of_ble_eq_true rfl)) d_Mo_declare_5 ⟨Nat.le_of_ble_eq_true rfl, Nat.le_of_ble_eq_true rfl⟩)) (fun r2 er2 => ?_)
  subst er2
  refine lv_istore (lv' := [(4, .int (m_find x (x.1 5))), (0, .ref mo), (1, .int a1), (2, .int a2), (3, .int a3)]) hx hb d_Mo_declare_8 hl (by decide) rfl (fun ls hl => ?_)
  refine lv_aload_n hx hb d_Mo_declare_10 rfl (lv_at hl 1 rfl) ?_
  refine nm_get hx hb hg hown hK hP 3 (by decide) (by decide) (hg _ mw_893) d_Mo_declare_11 ?_
  refine lv_iconst (v := 2) hx hb d_Mo_declare_14 (by decide) ?_
  refine lv_icmp_eq (tgt := 30) hx hb d_Mo_declare_15 rfl (fun hc15 => ?_) (fun hc15 => ?_)
  · skip
    have hk := hk.1 hc15
    refine lv_iload hx hb d_Mo_declare_30 (lv_at hl 0 rfl) ?_
    refine lv_if_lt (tgt := 58) hx hb d_Mo_declare_32 rfl (fun hc32 => ?_) (fun hc32 => ?_)
    · skip
      have hk := hk.1 hc32
      have hl := lv_sub (l' := [(0, .ref mo), (1, .int a1), (2, .int a2), (3, .int a3)]) hl [1, 2, 3, 4] rfl
      have hR : m_declare x a1 a2 a3 = k_declare_58 x a1 a2 a3 := by rw [m_declare]; rw [if_pos hc15]; rw [if_pos hc32]
      exact nm_W1 hR (J58 x a1 a2 a3 ls _ _ hk hl hP hD hS)
    · skip
      have hk := hk.2 hc32
      refine lv_aload_n hx hb d_Mo_declare_35 rfl (lv_at hl 1 rfl) ?_
      refine nm_getA hx hb hg hown hK hP 18 (by decide) (by decide) (hg _ mw_908) d_Mo_declare_36 ?_
      refine lv_iload hx hb d_Mo_declare_39 (lv_at hl 0 rfl) ?_
      obtain ⟨hi, hk⟩ := hk
      refine nm_ld hx hb hK hP 18 6 rfl (by decide) hi d_Mo_declare_41 ?_
      refine lv_aload_n hx hb d_Mo_declare_42 rfl (lv_at hl 1 rfl) ?_
      refine nm_get hx hb hg hown hK hP 21 (by decide) (by decide) (hg _ mw_911) d_Mo_declare_43 ?_
      refine lv_icmp_ne (tgt := 58) hx hb d_Mo_declare_46 rfl (fun hc46 => ?_) (fun hc46 => ?_)
      · skip
        have hk := hk.2 hc46
        have hl := lv_sub (l' := [(0, .ref mo), (1, .int a1), (2, .int a2), (3, .int a3)]) hl [1, 2, 3, 4] rfl
        have hR : m_declare x a1 a2 a3 = k_declare_58 x a1 a2 a3 := by rw [m_declare]; rw [if_pos hc15]; rw [if_neg hc32]; rw [if_neg hc46]
        exact nm_W1 hR (J58 x a1 a2 a3 ls _ _ hk hl hP hD hS)
      · skip
        have hk := hk.1 hc46
        refine lv_aload_n hx hb d_Mo_declare_49 rfl (lv_at hl 1 rfl) ?_
        refine lv_iconst (v := 3) hx hb d_Mo_declare_50 (by decide) ?_
        refine lv_aload_n hx hb d_Mo_declare_51 rfl (lv_at hl 1 rfl) ?_
        refine nm_get hx hb hg hown hK hP 4 (by decide) (by decide) (hg _ mw_894) d_Mo_declare_52 ?_
        have hFc := nm_free hD hS hA
        refine va_callv (va_runV (As := [.int 3, .int (x.1 4)]) (rest := []) ⟨hx, hb, hml, hown, hts⟩ (t_fail l G _ mo ad x 3 (x.1 4)) (cwV 2 hts (nn_gV mw_1080 mw_1077 mw_1079 mw_56 mw_94) rfl rfl rfl (by decide +kernel) ⟨Nat.le_of_ble_eq_true rfl, Nat.le_of_ble_eq_true rfl⟩) (nn_preV (va_recv hK hP rfl (q0 := 0) rfl) hP hD hK hN) rfl rfl hl.1 rfl (lv_room (Nat.le_of_ble_eq_true rfl)) d_Mo_declare_55 ⟨Nat.le_of_ble_eq_true rfl, Nat.le_of_ble_eq_true rfl⟩) hS (fun q _ h => hFc q h) hFc (fun u t H locs ht hvm hw hB hz1 hk1 hS => ?_)
        obtain ⟨hP1, hD1⟩ := hB
        rw [ht] at hP1
        have hP := hP1
        have hD := hD1.weaken (fun _ _ _ h => hFc _ h)
        have hl := lv_sub (l' := [(0, .ref mo), (1, .int a1), (2, .int a2), (3, .int a3)]) hl [1, 2, 3, 4] rfl
        have hR : m_declare x a1 a2 a3 = k_declare_58 (m_fail x 3 (x.1 4)) a1 a2 a3 := by rw [m_declare]; rw [if_pos hc15]; rw [if_neg hc32]; rw [if_pos hc46]
        exact nm_W1 hR (J58 (m_fail x 3 (x.1 4)) a1 a2 a3 ls _ _ hk hl hP hD hS)
  · skip
    have hk := hk.2 hc15
    refine lv_aload_n hx hb d_Mo_declare_18 rfl (lv_at hl 1 rfl) ?_
    refine lv_iconst (v := 1) hx hb d_Mo_declare_19 (by decide) ?_
    refine lv_aload_n hx hb d_Mo_declare_20 rfl (lv_at hl 1 rfl) ?_
    refine nm_get hx hb hg hown hK hP 4 (by decide) (by decide) (hg _ mw_894) d_Mo_declare_21 ?_
    have hFc := nm_free hD hS hA
    refine va_callv (va_runV (As := [.int 1, .int (x.1 4)]) (rest := []) ⟨hx, hb, hml, hown, hts⟩ (t_fail l G _ mo ad x 1 (x.1 4)) (cwV 2 hts (nn_gV mw_1080 mw_1077 mw_1079 mw_56 mw_94) rfl rfl rfl (by decide +kernel) ⟨Nat.le_of_ble_eq_true rfl, Nat.le_of_ble_eq_true rfl⟩) (nn_preV (va_recv hK hP rfl (q0 := 0) rfl) hP hD hK hN) rfl rfl hl.1 rfl (lv_room (Nat.le_of_ble_eq_true rfl)) d_Mo_declare_24 ⟨Nat.le_of_ble_eq_true rfl, Nat.le_of_ble_eq_true rfl⟩) hS (fun q _ h => hFc q h) hFc (fun u t H locs ht hvm hw hB hz1 hk1 hS => ?_)
    obtain ⟨hP1, hD1⟩ := hB
    rw [ht] at hP1
    have hP := hP1
    have hD := hD1.weaken (fun _ _ _ h => hFc _ h)
    refine lv_goto (tgt := 58) hx hb d_Mo_declare_27 rfl ?_
    have hl := lv_sub (l' := [(0, .ref mo), (1, .int a1), (2, .int a2), (3, .int a3)]) hl [1, 2, 3, 4] rfl
    have hR : m_declare x a1 a2 a3 = k_declare_58 (m_fail x 1 (x.1 4)) a1 a2 a3 := by rw [m_declare]; rw [if_neg hc15]
    exact nm_W1 hR (J58 (m_fail x 1 (x.1 4)) a1 a2 a3 ls _ _ hk hl hP hD hS)

theorem mw_915 : (.fieldLink R_Mo 133 R_Mo "made" "I" : Cond) ∈ nn_gw := nn_at 915 (by decide +kernel) (by decide +kernel)
theorem mw_916 : (.fieldLink R_Mo 45 R_Mo "madeOp" "[I" : Cond) ∈ nn_gw := nn_at 916 (by decide +kernel) (by decide +kernel)
theorem mw_917 : (.fieldLink R_Mo 48 R_Mo "madeL" "[I" : Cond) ∈ nn_gw := nn_at 917 (by decide +kernel) (by decide +kernel)
theorem mw_918 : (.fieldLink R_Mo 51 R_Mo "madeA" "[I" : Cond) ∈ nn_gw := nn_at 918 (by decide +kernel) (by decide +kernel)
theorem d_Mo_emit_0 : decode b_Mo_emit 0 = .ok (.aload_n 0, 1) := by decide +kernel
theorem d_Mo_emit_1 : decode b_Mo_emit 1 = .ok (.getfield 45, 3) := by decide +kernel
theorem d_Mo_emit_4 : decode b_Mo_emit 4 = .ok (.aload_n 0, 1) := by decide +kernel
theorem d_Mo_emit_5 : decode b_Mo_emit 5 = .ok (.getfield 133, 3) := by decide +kernel
theorem d_Mo_emit_8 : decode b_Mo_emit 8 = .ok (.iload_n 1, 1) := by decide +kernel
theorem d_Mo_emit_9 : decode b_Mo_emit 9 = .ok (.iastore, 1) := by decide +kernel
theorem d_Mo_emit_10 : decode b_Mo_emit 10 = .ok (.aload_n 0, 1) := by decide +kernel
theorem d_Mo_emit_11 : decode b_Mo_emit 11 = .ok (.getfield 48, 3) := by decide +kernel
theorem d_Mo_emit_14 : decode b_Mo_emit 14 = .ok (.aload_n 0, 1) := by decide +kernel
theorem d_Mo_emit_15 : decode b_Mo_emit 15 = .ok (.getfield 133, 3) := by decide +kernel
theorem d_Mo_emit_18 : decode b_Mo_emit 18 = .ok (.iload_n 2, 1) := by decide +kernel
theorem d_Mo_emit_19 : decode b_Mo_emit 19 = .ok (.iastore, 1) := by decide +kernel
theorem d_Mo_emit_20 : decode b_Mo_emit 20 = .ok (.aload_n 0, 1) := by decide +kernel
theorem d_Mo_emit_21 : decode b_Mo_emit 21 = .ok (.getfield 51, 3) := by decide +kernel
theorem d_Mo_emit_24 : decode b_Mo_emit 24 = .ok (.aload_n 0, 1) := by decide +kernel
theorem d_Mo_emit_25 : decode b_Mo_emit 25 = .ok (.getfield 133, 3) := by decide +kernel
theorem d_Mo_emit_28 : decode b_Mo_emit 28 = .ok (.iload_n 3, 1) := by decide +kernel
theorem d_Mo_emit_29 : decode b_Mo_emit 29 = .ok (.iastore, 1) := by decide +kernel
theorem d_Mo_emit_30 : decode b_Mo_emit 30 = .ok (.aload_n 0, 1) := by decide +kernel
theorem d_Mo_emit_31 : decode b_Mo_emit 31 = .ok (.dup, 1) := by decide +kernel
theorem d_Mo_emit_32 : decode b_Mo_emit 32 = .ok (.getfield 133, 3) := by decide +kernel
theorem d_Mo_emit_35 : decode b_Mo_emit 35 = .ok (.iconst 1, 1) := by decide +kernel
theorem d_Mo_emit_36 : decode b_Mo_emit 36 = .ok (.iadd, 1) := by decide +kernel
theorem d_Mo_emit_37 : decode b_Mo_emit 37 = .ok (.putfield 133, 3) := by decide +kernel
theorem d_Mo_emit_40 : decode b_Mo_emit 40 = .ok (.aload_n 0, 1) := by decide +kernel
theorem d_Mo_emit_41 : decode b_Mo_emit 41 = .ok (.getfield 133, 3) := by decide +kernel
theorem d_Mo_emit_44 : decode b_Mo_emit 44 = .ok (.iconst 1, 1) := by decide +kernel
theorem d_Mo_emit_45 : decode b_Mo_emit 45 = .ok (.isub, 1) := by decide +kernel
theorem d_Mo_emit_46 : decode b_Mo_emit 46 = .ok (.ireturn, 1) := by decide +kernel

def m_emit (x : nM) (a1 : Int32) (a2 : Int32) (a3 : Int32) : nM × Int32 := (nm_f (nm_a (nm_a (nm_a x 26 (x.1 25) a1) 27 (x.1 25) a2) 28 (x.1 25) a3) 25 ((x.1 25) + 1), ((x.1 25) + 1) - 1)
def o_emit (x : nM) (a1 : Int32) (a2 : Int32) (a3 : Int32) : Prop := vp_in (x.1 25) 400 ∧ vp_in (x.1 25) 400 ∧ vp_in (x.1 25) 400 ∧ True
set_option maxHeartbeats 4000000 in
set_option maxRecDepth 100000 in
theorem t_emit (l : Launch) (G : nn_G) (sz : Nat) (mo : Nat) (ad : Nat → Nat) (x : nM) (a1 : Int32) (a2 : Int32) (a3 : Int32) (hk : o_emit x a1 a2 a3) : Met l y_Mo_emit w_Mo_emit ({ frames := 0, cells := 0, slots := 0, locals := 0 }) (nn_P G [.ref mo, .int a1, .int a2, .int a3] (nm_W G mo ad x) sz) (nm_Qi G mo ad (m_emit x a1 a2 a3) (va_A (nm_W G mo ad x) sz)) 0 0 (va_A (nm_W G mo ad x) sz) := by
  refine Met.ofW (cc := b_Mo_emit) (maxL := 4) (ret := some .int) (by decide) rfl ?_
  intro p e s m args below meth c s₁ B hml hv
  obtain ⟨rfl, hsz, hP, hK, hD0, hN⟩ := hv
  have hx := B.exec
  have hb := B.bytes
  have hr := B.returns
  have hts := atoms_spec (ws := w_Mo_emit) B.pre
  have hg : ∀ w ∈ nn_gw, w.before _ s = true := fun w h => hts w (List.mem_cons_of_mem _ h)
  have hown : s.vm.findClass R_Mo = some m.cls := findClass_of_methodNamed B.named
  subst hsz
  have hD := hD0.self (sz := s.heap.size)
  generalize hAe : va_A (nm_W G mo ad x) s.heap.size = A at hD ⊢
  have hA : ∀ q : Nat, s.heap.size ≤ q → A q := fun q h => by rw [← hAe]; exact Or.inr h
  clear hAe
  have hS : va_S A s.heap s.heap [] := va_S.rf
  have hP : va_P G.1 nn_cls (nm_W G mo ad x) s.heap := hP
  have hl := lv_entry ([.ref mo, .int a1, .int a2, .int a3]) (n := 4) (Nat.le_of_ble_eq_true rfl)
  rw [lg_entry_eq]
  generalize (lg_sl ([.ref mo, .int a1, .int a2, .int a3]) ++ List.replicate (4 - (lg_sl ([.ref mo, .int a1, .int a2, .int a3])).length) Slot.unset).toArray = ls at hl ⊢
  have hl : lv_has ls 4 [(0, .ref mo), (1, .int a1), (2, .int a2), (3, .int a3)] := hl
  unfold o_emit at hk
  refine lv_aload_n hx hb d_Mo_emit_0 rfl (lv_at hl 0 rfl) ?_
  refine nm_getA hx hb hg hown hK hP 26 (by decide) (by decide) (hg _ mw_916) d_Mo_emit_1 ?_
  refine lv_aload_n hx hb d_Mo_emit_4 rfl (lv_at hl 0 rfl) ?_
  refine nm_get hx hb hg hown hK hP 25 (by decide) (by decide) (hg _ mw_915) d_Mo_emit_5 ?_
  refine lv_iload_n hx hb d_Mo_emit_8 rfl (lv_at hl 1 rfl) ?_
  obtain ⟨hi, hk⟩ := hk
  refine nm_st hx hb hK hP hD hS 26 9 rfl (by decide) hi d_Mo_emit_9 (fun H locs hP hD hS => ?_)
  refine lv_aload_n hx hb d_Mo_emit_10 rfl (lv_at hl 0 rfl) ?_
  refine nm_getA hx hb hg hown hK hP 27 (by decide) (by decide) (hg _ mw_917) d_Mo_emit_11 ?_
  refine lv_aload_n hx hb d_Mo_emit_14 rfl (lv_at hl 0 rfl) ?_
  refine nm_get hx hb hg hown hK hP 25 (by decide) (by decide) (hg _ mw_915) d_Mo_emit_15 ?_
  refine nb_top (x.1 25) rfl ?_
  refine lv_iload_n hx hb d_Mo_emit_18 rfl (lv_at hl 2 rfl) ?_
  obtain ⟨hi, hk⟩ := hk
  refine nm_st hx hb hK hP hD hS 27 10 rfl (by decide) hi d_Mo_emit_19 (fun H locs hP hD hS => ?_)
  refine lv_aload_n hx hb d_Mo_emit_20 rfl (lv_at hl 0 rfl) ?_
  refine nm_getA hx hb hg hown hK hP 28 (by decide) (by decide) (hg _ mw_918) d_Mo_emit_21 ?_
  refine lv_aload_n hx hb d_Mo_emit_24 rfl (lv_at hl 0 rfl) ?_
  refine nm_get hx hb hg hown hK hP 25 (by decide) (by decide) (hg _ mw_915) d_Mo_emit_25 ?_
  refine nb_top (x.1 25) rfl ?_
  refine lv_iload_n hx hb d_Mo_emit_28 rfl (lv_at hl 3 rfl) ?_
  obtain ⟨hi, hk⟩ := hk
  refine nm_st hx hb hK hP hD hS 28 11 rfl (by decide) hi d_Mo_emit_29 (fun H locs hP hD hS => ?_)
  refine lv_aload_n hx hb d_Mo_emit_30 rfl (lv_at hl 0 rfl) ?_
  refine lv_dup hx hb d_Mo_emit_31 rfl ?_
  refine nm_get hx hb hg hown hK hP 25 (by decide) (by decide) (hg _ mw_915) d_Mo_emit_32 ?_
  refine nb_top (x.1 25) rfl ?_
  refine lv_iconst (v := 1) hx hb d_Mo_emit_35 (by decide) ?_
  refine lv_iadd hx hb d_Mo_emit_36 ?_
  refine nm_put hx hb hg hown hK hP hD hS 25 (by decide) (by decide) (by decide) (hg _ mw_915) d_Mo_emit_37 (fun H locs hP hD hS => ?_)
  refine lv_aload_n hx hb d_Mo_emit_40 rfl (lv_at hl 0 rfl) ?_
  refine nm_get hx hb hg hown hK hP 25 (by decide) (by decide) (hg _ mw_915) d_Mo_emit_41 ?_
  refine nb_top ((x.1 25) + 1) rfl ?_
  refine lv_iconst (v := 1) hx hb d_Mo_emit_44 (by decide) ?_
  refine lv_isub hx hb d_Mo_emit_45 ?_
  have hR : m_emit x a1 a2 a3 = (nm_f (nm_a (nm_a (nm_a x 26 (x.1 25) a1) 27 (x.1 25) a2) 28 (x.1 25) a3) 25 ((x.1 25) + 1), ((x.1 25) + 1) - 1) := by rw [m_emit]
  refine nm_W2 hR ?_
  exact W.iret (v := ((x.1 25) + 1) - 1) hx hb hr (fun t ht hW => ⟨⟨((x.1 25) + 1) - 1, (), rfl, rfl, ⟨by rw [ht]; exact hP, hD⟩⟩, hS.F ht⟩) hS.2.2 d_Mo_emit_46

theorem mw_901 : (.fieldLink R_Mo 136 R_Mo "tasks" "I" : Cond) ∈ nn_gw := nn_at 901 (by decide +kernel) (by decide +kernel)
theorem mw_902 : (.fieldLink R_Mo 20 R_Mo "task" "[I" : Cond) ∈ nn_gw := nn_at 902 (by decide +kernel) (by decide +kernel)
theorem mw_903 : (.fieldLink R_Mo 24 R_Mo "first" "[I" : Cond) ∈ nn_gw := nn_at 903 (by decide +kernel) (by decide +kernel)
theorem mw_904 : (.fieldLink R_Mo 27 R_Mo "second" "[I" : Cond) ∈ nn_gw := nn_at 904 (by decide +kernel) (by decide +kernel)
theorem d_Mo_push_0 : decode b_Mo_push 0 = .ok (.aload_n 0, 1) := by decide +kernel
theorem d_Mo_push_1 : decode b_Mo_push 1 = .ok (.getfield 20, 3) := by decide +kernel
theorem d_Mo_push_4 : decode b_Mo_push 4 = .ok (.aload_n 0, 1) := by decide +kernel
theorem d_Mo_push_5 : decode b_Mo_push 5 = .ok (.getfield 136, 3) := by decide +kernel
theorem d_Mo_push_8 : decode b_Mo_push 8 = .ok (.iload_n 1, 1) := by decide +kernel
theorem d_Mo_push_9 : decode b_Mo_push 9 = .ok (.iastore, 1) := by decide +kernel
theorem d_Mo_push_10 : decode b_Mo_push 10 = .ok (.aload_n 0, 1) := by decide +kernel
theorem d_Mo_push_11 : decode b_Mo_push 11 = .ok (.getfield 24, 3) := by decide +kernel
theorem d_Mo_push_14 : decode b_Mo_push 14 = .ok (.aload_n 0, 1) := by decide +kernel
theorem d_Mo_push_15 : decode b_Mo_push 15 = .ok (.getfield 136, 3) := by decide +kernel
theorem d_Mo_push_18 : decode b_Mo_push 18 = .ok (.iload_n 2, 1) := by decide +kernel
theorem d_Mo_push_19 : decode b_Mo_push 19 = .ok (.iastore, 1) := by decide +kernel
theorem d_Mo_push_20 : decode b_Mo_push 20 = .ok (.aload_n 0, 1) := by decide +kernel
theorem d_Mo_push_21 : decode b_Mo_push 21 = .ok (.getfield 27, 3) := by decide +kernel
theorem d_Mo_push_24 : decode b_Mo_push 24 = .ok (.aload_n 0, 1) := by decide +kernel
theorem d_Mo_push_25 : decode b_Mo_push 25 = .ok (.getfield 136, 3) := by decide +kernel
theorem d_Mo_push_28 : decode b_Mo_push 28 = .ok (.iload_n 3, 1) := by decide +kernel
theorem d_Mo_push_29 : decode b_Mo_push 29 = .ok (.iastore, 1) := by decide +kernel
theorem d_Mo_push_30 : decode b_Mo_push 30 = .ok (.aload_n 0, 1) := by decide +kernel
theorem d_Mo_push_31 : decode b_Mo_push 31 = .ok (.dup, 1) := by decide +kernel
theorem d_Mo_push_32 : decode b_Mo_push 32 = .ok (.getfield 136, 3) := by decide +kernel
theorem d_Mo_push_35 : decode b_Mo_push 35 = .ok (.iconst 1, 1) := by decide +kernel
theorem d_Mo_push_36 : decode b_Mo_push 36 = .ok (.iadd, 1) := by decide +kernel
theorem d_Mo_push_37 : decode b_Mo_push 37 = .ok (.putfield 136, 3) := by decide +kernel
theorem d_Mo_push_40 : decode b_Mo_push 40 = .ok (.return_, 1) := by decide +kernel

def m_push (x : nM) (a1 : Int32) (a2 : Int32) (a3 : Int32) : nM := (nm_f (nm_a (nm_a (nm_a x 12 (x.1 11) a1) 13 (x.1 11) a2) 14 (x.1 11) a3) 11 ((x.1 11) + 1))
def o_push (x : nM) (a1 : Int32) (a2 : Int32) (a3 : Int32) : Prop := vp_in (x.1 11) 260 ∧ vp_in (x.1 11) 260 ∧ vp_in (x.1 11) 260 ∧ True
set_option maxHeartbeats 4000000 in
set_option maxRecDepth 100000 in
theorem t_push (l : Launch) (G : nn_G) (sz : Nat) (mo : Nat) (ad : Nat → Nat) (x : nM) (a1 : Int32) (a2 : Int32) (a3 : Int32) (hk : o_push x a1 a2 a3) : Met l y_Mo_push w_Mo_push ({ frames := 0, cells := 0, slots := 0, locals := 0 }) (nn_P G [.ref mo, .int a1, .int a2, .int a3] (nm_W G mo ad x) sz) (nm_Qv G mo ad (m_push x a1 a2 a3) (va_A (nm_W G mo ad x) sz)) 0 0 (va_A (nm_W G mo ad x) sz) := by
  refine Met.ofW (cc := b_Mo_push) (maxL := 4) (ret := none) (by decide) rfl ?_
  intro p e s m args below meth c s₁ B hml hv
  obtain ⟨rfl, hsz, hP, hK, hD0, hN⟩ := hv
  have hx := B.exec
  have hb := B.bytes
  have hr := B.returns
  have hts := atoms_spec (ws := w_Mo_push) B.pre
  have hg : ∀ w ∈ nn_gw, w.before _ s = true := fun w h => hts w (List.mem_cons_of_mem _ h)
  have hown : s.vm.findClass R_Mo = some m.cls := findClass_of_methodNamed B.named
  subst hsz
  have hD := hD0.self (sz := s.heap.size)
  generalize hAe : va_A (nm_W G mo ad x) s.heap.size = A at hD ⊢
  have hA : ∀ q : Nat, s.heap.size ≤ q → A q := fun q h => by rw [← hAe]; exact Or.inr h
  clear hAe
  have hS : va_S A s.heap s.heap [] := va_S.rf
  have hP : va_P G.1 nn_cls (nm_W G mo ad x) s.heap := hP
  have hl := lv_entry ([.ref mo, .int a1, .int a2, .int a3]) (n := 4) (Nat.le_of_ble_eq_true rfl)
  rw [lg_entry_eq]
  generalize (lg_sl ([.ref mo, .int a1, .int a2, .int a3]) ++ List.replicate (4 - (lg_sl ([.ref mo, .int a1, .int a2, .int a3])).length) Slot.unset).toArray = ls at hl ⊢
  have hl : lv_has ls 4 [(0, .ref mo), (1, .int a1), (2, .int a2), (3, .int a3)] := hl
  unfold o_push at hk
  refine lv_aload_n hx hb d_Mo_push_0 rfl (lv_at hl 0 rfl) ?_
  refine nm_getA hx hb hg hown hK hP 12 (by decide) (by decide) (hg _ mw_902) d_Mo_push_1 ?_
  refine lv_aload_n hx hb d_Mo_push_4 rfl (lv_at hl 0 rfl) ?_
  refine nm_get hx hb hg hown hK hP 11 (by decide) (by decide) (hg _ mw_901) d_Mo_push_5 ?_
  refine lv_iload_n hx hb d_Mo_push_8 rfl (lv_at hl 1 rfl) ?_
  obtain ⟨hi, hk⟩ := hk
  refine nm_st hx hb hK hP hD hS 12 1 rfl (by decide) hi d_Mo_push_9 (fun H locs hP hD hS => ?_)
  refine lv_aload_n hx hb d_Mo_push_10 rfl (lv_at hl 0 rfl) ?_
  refine nm_getA hx hb hg hown hK hP 13 (by decide) (by decide) (hg _ mw_903) d_Mo_push_11 ?_
  refine lv_aload_n hx hb d_Mo_push_14 rfl (lv_at hl 0 rfl) ?_
  refine nm_get hx hb hg hown hK hP 11 (by decide) (by decide) (hg _ mw_901) d_Mo_push_15 ?_
  refine nb_top (x.1 11) rfl ?_
  refine lv_iload_n hx hb d_Mo_push_18 rfl (lv_at hl 2 rfl) ?_
  obtain ⟨hi, hk⟩ := hk
  refine nm_st hx hb hK hP hD hS 13 2 rfl (by decide) hi d_Mo_push_19 (fun H locs hP hD hS => ?_)
  refine lv_aload_n hx hb d_Mo_push_20 rfl (lv_at hl 0 rfl) ?_
  refine nm_getA hx hb hg hown hK hP 14 (by decide) (by decide) (hg _ mw_904) d_Mo_push_21 ?_
  refine lv_aload_n hx hb d_Mo_push_24 rfl (lv_at hl 0 rfl) ?_
  refine nm_get hx hb hg hown hK hP 11 (by decide) (by decide) (hg _ mw_901) d_Mo_push_25 ?_
  refine nb_top (x.1 11) rfl ?_
  refine lv_iload_n hx hb d_Mo_push_28 rfl (lv_at hl 3 rfl) ?_
  obtain ⟨hi, hk⟩ := hk
  refine nm_st hx hb hK hP hD hS 14 3 rfl (by decide) hi d_Mo_push_29 (fun H locs hP hD hS => ?_)
  refine lv_aload_n hx hb d_Mo_push_30 rfl (lv_at hl 0 rfl) ?_
  refine lv_dup hx hb d_Mo_push_31 rfl ?_
  refine nm_get hx hb hg hown hK hP 11 (by decide) (by decide) (hg _ mw_901) d_Mo_push_32 ?_
  refine nb_top (x.1 11) rfl ?_
  refine lv_iconst (v := 1) hx hb d_Mo_push_35 (by decide) ?_
  refine lv_iadd hx hb d_Mo_push_36 ?_
  refine nm_put hx hb hg hown hK hP hD hS 11 (by decide) (by decide) (by decide) (hg _ mw_901) d_Mo_push_37 (fun H locs hP hD hS => ?_)
  have hR : m_push x a1 a2 a3 = nm_f (nm_a (nm_a (nm_a x 12 (x.1 11) a1) 13 (x.1 11) a2) 14 (x.1 11) a3) 11 ((x.1 11) + 1) := by rw [m_push]
  refine nm_W1 hR ?_
  exact W.vret hx hb hr (fun t ht hW => ⟨⟨(), rfl, trivial, ⟨by rw [ht]; exact hP, hD⟩⟩, hS.F ht⟩) hS.2.2 d_Mo_push_40

theorem mw_914 : (.fieldLink R_Mo 139 R_Mo "deep" "I" : Cond) ∈ nn_gw := nn_at 914 (by decide +kernel) (by decide +kernel)
theorem d_Mo_open_0 : decode b_Mo_open 0 = .ok (.aload_n 0, 1) := by decide +kernel
theorem d_Mo_open_1 : decode b_Mo_open 1 = .ok (.getfield 139, 3) := by decide +kernel
theorem d_Mo_open_4 : decode b_Mo_open 4 = .ok (.bipush 6, 2) := by decide +kernel
theorem d_Mo_open_6 : decode b_Mo_open 6 = .ok (.if_icmp .ne 12, 3) := by decide +kernel
theorem d_Mo_open_9 : decode b_Mo_open 9 = .ok (.aload_n 0, 1) := by decide +kernel
theorem d_Mo_open_10 : decode b_Mo_open 10 = .ok (.iconst 1, 1) := by decide +kernel
theorem d_Mo_open_11 : decode b_Mo_open 11 = .ok (.aload_n 0, 1) := by decide +kernel
theorem d_Mo_open_12 : decode b_Mo_open 12 = .ok (.getfield 78, 3) := by decide +kernel
theorem d_Mo_open_15 : decode b_Mo_open 15 = .ok (.invokevirtual 120, 3) := by decide +kernel
theorem d_Mo_open_18 : decode b_Mo_open 18 = .ok (.aload_n 0, 1) := by decide +kernel
theorem d_Mo_open_19 : decode b_Mo_open 19 = .ok (.dup, 1) := by decide +kernel
theorem d_Mo_open_20 : decode b_Mo_open 20 = .ok (.getfield 139, 3) := by decide +kernel
theorem d_Mo_open_23 : decode b_Mo_open 23 = .ok (.iconst 1, 1) := by decide +kernel
theorem d_Mo_open_24 : decode b_Mo_open 24 = .ok (.iadd, 1) := by decide +kernel
theorem d_Mo_open_25 : decode b_Mo_open 25 = .ok (.putfield 139, 3) := by decide +kernel
theorem d_Mo_open_28 : decode b_Mo_open 28 = .ok (.aload_n 0, 1) := by decide +kernel
theorem d_Mo_open_29 : decode b_Mo_open 29 = .ok (.invokevirtual 117, 3) := by decide +kernel
theorem d_Mo_open_32 : decode b_Mo_open 32 = .ok (.return_, 1) := by decide +kernel

def k_open_18 (x : nM)  : nM := (m_goOn (nm_f x 24 ((x.1 24) + 1)))
def p_open_18 (x : nM)  : Prop := o_goOn (nm_f x 24 ((x.1 24) + 1)) ∧ True
def m_open (x : nM)  : nM := (if x.1 24 = 6 then k_open_18 (m_fail x 1 (x.1 4)) else k_open_18 x)
def o_open (x : nM)  : Prop := ((x.1 24 = 6 → p_open_18 (m_fail x 1 (x.1 4))) ∧ (¬ (x.1 24 = 6) → p_open_18 x))
set_option maxHeartbeats 4000000 in
set_option maxRecDepth 100000 in
theorem t_open (l : Launch) (G : nn_G) (sz : Nat) (mo : Nat) (ad : Nat → Nat) (x : nM)  (hk : o_open x) : Met l y_Mo_open w_Mo_open ({ frames := 3, cells := 0, slots := 0, locals := 64 }) (nn_P G [.ref mo] (nm_W G mo ad x) sz) (nm_Qv G mo ad (m_open x) (va_A (nm_W G mo ad x) sz)) 0 0 (va_A (nm_W G mo ad x) sz) := by
  refine Met.ofW (cc := b_Mo_open) (maxL := 1) (ret := none) (by decide) rfl ?_
  intro p e s m args below meth c s₁ B hml hv
  obtain ⟨rfl, hsz, hP, hK, hD0, hN⟩ := hv
  have hx := B.exec
  have hb := B.bytes
  have hr := B.returns
  have hts := atoms_spec (ws := w_Mo_open) B.pre
  have hg : ∀ w ∈ nn_gw, w.before _ s = true := fun w h => hts w (List.mem_cons_of_mem _ h)
  have hown : s.vm.findClass R_Mo = some m.cls := findClass_of_methodNamed B.named
  subst hsz
  have hD := hD0.self (sz := s.heap.size)
  generalize hAe : va_A (nm_W G mo ad x) s.heap.size = A at hD ⊢
  have hA : ∀ q : Nat, s.heap.size ≤ q → A q := fun q h => by rw [← hAe]; exact Or.inr h
  clear hAe
  have hS : va_S A s.heap s.heap [] := va_S.rf
  have hP : va_P G.1 nn_cls (nm_W G mo ad x) s.heap := hP
  have hl := lv_entry ([.ref mo]) (n := 1) (Nat.le_of_ble_eq_true rfl)
  rw [lg_entry_eq]
  generalize (lg_sl ([.ref mo]) ++ List.replicate (1 - (lg_sl ([.ref mo])).length) Slot.unset).toArray = ls at hl ⊢
  have hl : lv_has ls 1 [(0, .ref mo)] := hl
  have J18 : ∀ (x : nM)  (ls : Array Slot) (H : Heap) (locs : List Loc), p_open_18 x → lv_has ls 1 [(0, .ref mo)] → va_P G.1 nn_cls (nm_W G mo ad x) H → va_D A (nm_W G mo ad x) → va_S A s.heap H locs → W p l e (headSpec w_Mo_open ({ frames := 3, cells := 0, slots := 0, locals := 64 })).room s m [.ref mo].toArray below meth c H locs 0 0 (MQ below (nm_Qv G mo ad (k_open_18 x) A) [.ref mo].toArray s 0 0 A) (F0 m 18 ls []) := by
    intro x  ls H locs hk hl hP hD hS
    unfold p_open_18 at hk
    refine lv_aload_n hx hb d_Mo_open_18 rfl (lv_at hl 0 rfl) ?_
    refine lv_dup hx hb d_Mo_open_19 rfl ?_
    refine nm_get hx hb hg hown hK hP 24 (by decide) (by decide) (hg _ mw_914) d_Mo_open_20 ?_
    refine lv_iconst (v := 1) hx hb d_Mo_open_23 (by decide) ?_
    refine lv_iadd hx hb d_Mo_open_24 ?_
    refine nm_put hx hb hg hown hK hP hD hS 24 (by decide) (by decide) (by decide) (hg _ mw_914) d_Mo_open_25 (fun H locs hP hD hS => ?_)
    refine lv_aload_n hx hb d_Mo_open_28 rfl (lv_at hl 0 rfl) ?_
    obtain ⟨hi, hk⟩ := hk
    have hFc := nm_free hD hS hA
    refine va_callv (va_runV (As := []) (rest := []) ⟨hx, hb, hml, hown, hts⟩ (t_goOn l G _ mo ad (nm_f x 24 ((x.1 24) + 1)) hi) (cwV 0 hts (nn_gV mw_1068 mw_1065 mw_1067 mw_53 mw_94) rfl rfl rfl (by decide +kernel) ⟨Nat.le_of_ble_eq_true rfl, Nat.le_of_ble_eq_true rfl⟩) (nn_preV (va_recv hK hP rfl (q0 := 0) rfl) hP hD hK hN) rfl rfl hl.1 rfl (lv_room (Nat.le_of_ble_eq_true rfl)) d_Mo_open_29 ⟨Nat.le_of_ble_eq_true rfl, Nat.le_of_ble_eq_true rfl⟩) hS (fun q _ h => hFc q h) hFc (fun u t H locs ht hvm hw hB hz1 hk1 hS => ?_)
    obtain ⟨hP1, hD1⟩ := hB
    rw [ht] at hP1
    have hP := hP1
    have hD := hD1.weaken (fun _ _ _ h => hFc _ h)
    have hR : k_open_18 x = m_goOn (nm_f x 24 ((x.1 24) + 1)) := by rw [k_open_18]
    refine nm_W1 hR ?_
    exact W.vret hx hb hr (fun t ht hW => ⟨⟨(), rfl, trivial, ⟨by rw [ht]; exact hP, hD⟩⟩, hS.F ht⟩) hS.2.2 d_Mo_open_32
  unfold o_open at hk
  refine lv_aload_n hx hb d_Mo_open_0 rfl (lv_at hl 0 rfl) ?_
  refine nm_get hx hb hg hown hK hP 24 (by decide) (by decide) (hg _ mw_914) d_Mo_open_1 ?_
  refine lv_bipush (v := 6) hx hb d_Mo_open_4 (by decide) ?_
  refine lv_icmp_ne (tgt := 18) hx hb d_Mo_open_6 rfl (fun hc6 => ?_) (fun hc6 => ?_)
  · skip
    have hk := hk.2 hc6
    have hl := lv_sub (l' := [(0, .ref mo)]) hl [0] rfl
    have hR : m_open x = k_open_18 x := by rw [m_open]; rw [if_neg hc6]
    exact nm_W1 hR (J18 x ls _ _ hk hl hP hD hS)
  · skip
    have hk := hk.1 hc6
    refine lv_aload_n hx hb d_Mo_open_9 rfl (lv_at hl 0 rfl) ?_
    refine lv_iconst (v := 1) hx hb d_Mo_open_10 (by decide) ?_
    refine lv_aload_n hx hb d_Mo_open_11 rfl (lv_at hl 0 rfl) ?_
    refine nm_get hx hb hg hown hK hP 4 (by decide) (by decide) (hg _ mw_894) d_Mo_open_12 ?_
    have hFc := nm_free hD hS hA
    refine va_callv (va_runV (As := [.int 1, .int (x.1 4)]) (rest := []) ⟨hx, hb, hml, hown, hts⟩ (t_fail l G _ mo ad x 1 (x.1 4)) (cwV 2 hts (nn_gV mw_1080 mw_1077 mw_1079 mw_56 mw_94) rfl rfl rfl (by decide +kernel) ⟨Nat.le_of_ble_eq_true rfl, Nat.le_of_ble_eq_true rfl⟩) (nn_preV (va_recv hK hP rfl (q0 := 0) rfl) hP hD hK hN) rfl rfl hl.1 rfl (lv_room (Nat.le_of_ble_eq_true rfl)) d_Mo_open_15 ⟨Nat.le_of_ble_eq_true rfl, Nat.le_of_ble_eq_true rfl⟩) hS (fun q _ h => hFc q h) hFc (fun u t H locs ht hvm hw hB hz1 hk1 hS => ?_)
    obtain ⟨hP1, hD1⟩ := hB
    rw [ht] at hP1
    have hP := hP1
    have hD := hD1.weaken (fun _ _ _ h => hFc _ h)
    have hl := lv_sub (l' := [(0, .ref mo)]) hl [0] rfl
    have hR : m_open x = k_open_18 (m_fail x 1 (x.1 4)) := by rw [m_open]; rw [if_pos hc6]
    exact nm_W1 hR (J18 (m_fail x 1 (x.1 4)) ls _ _ hk hl hP hD hS)

theorem d_Mo_links_0 : decode b_Mo_links 0 = .ok (.aload_n 0, 1) := by decide +kernel
theorem d_Mo_links_1 : decode b_Mo_links 1 = .ok (.getfield 130, 3) := by decide +kernel
theorem d_Mo_links_4 : decode b_Mo_links 4 = .ok (.aload_n 0, 1) := by decide +kernel
theorem d_Mo_links_5 : decode b_Mo_links 5 = .ok (.getfield 36, 3) := by decide +kernel
theorem d_Mo_links_8 : decode b_Mo_links 8 = .ok (.iload_n 1, 1) := by decide +kernel
theorem d_Mo_links_9 : decode b_Mo_links 9 = .ok (.iaload, 1) := by decide +kernel
theorem d_Mo_links_10 : decode b_Mo_links 10 = .ok (.isub, 1) := by decide +kernel
theorem d_Mo_links_11 : decode b_Mo_links 11 = .ok (.ireturn, 1) := by decide +kernel

def m_links (x : nM) (a1 : Int32) : Int32 := ((x.1 21) - (nm_g x 18 a1))
def o_links (x : nM) (a1 : Int32) : Prop := vp_in a1 100 ∧ True
set_option maxHeartbeats 4000000 in
set_option maxRecDepth 100000 in
theorem t_links (l : Launch) (G : nn_G) (sz : Nat) (mo : Nat) (ad : Nat → Nat) (x : nM) (a1 : Int32) (hk : o_links x a1) : Met l y_Mo_links w_Mo_links ({ frames := 0, cells := 0, slots := 0, locals := 0 }) (nn_P G [.ref mo, .int a1] (nm_W G mo ad x) sz) (vp_Si (fun r => r = m_links x a1)) 0 0 (fun _ => False) := by
  refine Met.ofW (cc := b_Mo_links) (maxL := 2) (ret := some .int) (by decide) rfl ?_
  intro p e s m args below meth c s₁ B hml hv
  obtain ⟨rfl, hsz, hP, hK, hD0, hN⟩ := hv
  have hx := B.exec
  have hb := B.bytes
  have hr := B.returns
  have hts := atoms_spec (ws := w_Mo_links) B.pre
  have hg : ∀ w ∈ nn_gw, w.before _ s = true := fun w h => hts w (List.mem_cons_of_mem _ h)
  have hown : s.vm.findClass R_Mo = some m.cls := findClass_of_methodNamed B.named
  subst hsz
  have hD := hD0
  have hP : va_P G.1 nn_cls (nm_W G mo ad x) s.heap := hP
  have hl := lv_entry ([.ref mo, .int a1]) (n := 2) (Nat.le_of_ble_eq_true rfl)
  rw [lg_entry_eq]
  generalize (lg_sl ([.ref mo, .int a1]) ++ List.replicate (2 - (lg_sl ([.ref mo, .int a1])).length) Slot.unset).toArray = ls at hl ⊢
  have hl : lv_has ls 2 [(0, .ref mo), (1, .int a1)] := hl
  unfold o_links at hk
  refine lv_aload_n hx hb d_Mo_links_0 rfl (lv_at hl 0 rfl) ?_
  refine nm_get hx hb hg hown hK hP 21 (by decide) (by decide) (hg _ mw_911) d_Mo_links_1 ?_
  refine lv_aload_n hx hb d_Mo_links_4 rfl (lv_at hl 0 rfl) ?_
  refine nm_getA hx hb hg hown hK hP 18 (by decide) (by decide) (hg _ mw_908) d_Mo_links_5 ?_
  refine lv_iload_n hx hb d_Mo_links_8 rfl (lv_at hl 1 rfl) ?_
  obtain ⟨hi, hk⟩ := hk
  refine nm_ld hx hb hK hP 18 6 rfl (by decide) hi d_Mo_links_9 ?_
  refine lv_isub hx hb d_Mo_links_10 ?_
  have hR : m_links x a1 = (x.1 21) - (nm_g x 18 a1) := by rw [m_links]
  exact W.iret (v := (x.1 21) - (nm_g x 18 a1)) hx hb hr (fun t ht hW => ⟨(x.1 21) - (nm_g x 18 a1), rfl, hR.symm, ht⟩) (fun q h => by cases h) d_Mo_links_11
