/-! contracts (by wip/p1/gen.py) -/
theorem d_Mo_write_0 : decode b_Mo_write 0 = .ok (.aload_n 0, 1) := by decide +kernel
theorem d_Mo_write_1 : decode b_Mo_write 1 = .ok (.iconst 0, 1) := by decide +kernel
theorem d_Mo_write_2 : decode b_Mo_write 2 = .ok (.putfield 72, 3) := by decide +kernel
theorem d_Mo_write_5 : decode b_Mo_write 5 = .ok (.iconst 0, 1) := by decide +kernel
theorem d_Mo_write_6 : decode b_Mo_write 6 = .ok (.istore_n 3, 1) := by decide +kernel
theorem d_Mo_write_7 : decode b_Mo_write 7 = .ok (.bipush 7, 2) := by decide +kernel
theorem d_Mo_write_9 : decode b_Mo_write 9 = .ok (.istore 4, 2) := by decide +kernel
theorem d_Mo_write_11 : decode b_Mo_write 11 = .ok (.iload 4, 2) := by decide +kernel
theorem d_Mo_write_13 : decode b_Mo_write 13 = .ok (.ifCond .lt 57, 3) := by decide +kernel
theorem d_Mo_write_16 : decode b_Mo_write 16 = .ok (.lload_n 1, 1) := by decide +kernel
theorem d_Mo_write_17 : decode b_Mo_write 17 = .ok (.bipush 8, 2) := by decide +kernel
theorem d_Mo_write_19 : decode b_Mo_write 19 = .ok (.iload 4, 2) := by decide +kernel
theorem d_Mo_write_21 : decode b_Mo_write 21 = .ok (.imul, 1) := by decide +kernel
theorem d_Mo_write_22 : decode b_Mo_write 22 = .ok (.lushr, 1) := by decide +kernel
theorem d_Mo_write_23 : decode b_Mo_write 23 = .ok (.l2i, 1) := by decide +kernel
theorem d_Mo_write_24 : decode b_Mo_write 24 = .ok (.sipush 255, 3) := by decide +kernel
theorem d_Mo_write_27 : decode b_Mo_write 27 = .ok (.iand, 1) := by decide +kernel
theorem d_Mo_write_28 : decode b_Mo_write 28 = .ok (.istore 5, 2) := by decide +kernel
theorem d_Mo_write_30 : decode b_Mo_write 30 = .ok (.iload 5, 2) := by decide +kernel
theorem d_Mo_write_32 : decode b_Mo_write 32 = .ok (.ifCond .eq 19, 3) := by decide +kernel
theorem d_Mo_write_35 : decode b_Mo_write 35 = .ok (.iload 5, 2) := by decide +kernel
theorem d_Mo_write_37 : decode b_Mo_write 37 = .ok (.bipush 32, 2) := by decide +kernel
theorem d_Mo_write_39 : decode b_Mo_write 39 = .ok (.if_icmp .lt 10, 3) := by decide +kernel
theorem d_Mo_write_42 : decode b_Mo_write 42 = .ok (.iload 5, 2) := by decide +kernel
theorem d_Mo_write_44 : decode b_Mo_write 44 = .ok (.bipush 126, 2) := by decide +kernel
theorem d_Mo_write_46 : decode b_Mo_write 46 = .ok (.if_icmp .le 5, 3) := by decide +kernel
theorem d_Mo_write_49 : decode b_Mo_write 49 = .ok (.iconst 0, 1) := by decide +kernel
theorem d_Mo_write_50 : decode b_Mo_write 50 = .ok (.ireturn, 1) := by decide +kernel
theorem d_Mo_write_51 : decode b_Mo_write 51 = .ok (.iload 5, 2) := by decide +kernel
theorem d_Mo_write_53 : decode b_Mo_write 53 = .ok (.ifCond .eq 9, 3) := by decide +kernel
theorem d_Mo_write_56 : decode b_Mo_write 56 = .ok (.iload_n 3, 1) := by decide +kernel
theorem d_Mo_write_57 : decode b_Mo_write 57 = .ok (.iconst 1, 1) := by decide +kernel
theorem d_Mo_write_58 : decode b_Mo_write 58 = .ok (.iadd, 1) := by decide +kernel
theorem d_Mo_write_59 : decode b_Mo_write 59 = .ok (.goto 4, 3) := by decide +kernel
theorem d_Mo_write_62 : decode b_Mo_write 62 = .ok (.iload_n 3, 1) := by decide +kernel
theorem d_Mo_write_63 : decode b_Mo_write 63 = .ok (.istore_n 3, 1) := by decide +kernel
theorem d_Mo_write_64 : decode b_Mo_write 64 = .ok (.iinc 4 (-1), 3) := by decide +kernel
theorem d_Mo_write_67 : decode b_Mo_write 67 = .ok (.goto (-56), 3) := by decide +kernel
theorem d_Mo_write_70 : decode b_Mo_write 70 = .ok (.aload_n 0, 1) := by decide +kernel
theorem d_Mo_write_71 : decode b_Mo_write 71 = .ok (.getfield 75, 3) := by decide +kernel
theorem d_Mo_write_74 : decode b_Mo_write 74 = .ok (.iload_n 3, 1) := by decide +kernel
theorem d_Mo_write_75 : decode b_Mo_write 75 = .ok (.iadd, 1) := by decide +kernel
theorem d_Mo_write_76 : decode b_Mo_write 76 = .ok (.sipush 180, 3) := by decide +kernel
theorem d_Mo_write_79 : decode b_Mo_write 79 = .ok (.if_icmp .le 5, 3) := by decide +kernel
theorem d_Mo_write_82 : decode b_Mo_write 82 = .ok (.iconst 0, 1) := by decide +kernel
theorem d_Mo_write_83 : decode b_Mo_write 83 = .ok (.ireturn, 1) := by decide +kernel
theorem d_Mo_write_84 : decode b_Mo_write 84 = .ok (.bipush 7, 2) := by decide +kernel
theorem d_Mo_write_86 : decode b_Mo_write 86 = .ok (.istore 4, 2) := by decide +kernel
theorem d_Mo_write_88 : decode b_Mo_write 88 = .ok (.iload 4, 2) := by decide +kernel
theorem d_Mo_write_90 : decode b_Mo_write 90 = .ok (.ifCond .lt 50, 3) := by decide +kernel
theorem d_Mo_write_93 : decode b_Mo_write 93 = .ok (.lload_n 1, 1) := by decide +kernel
theorem d_Mo_write_94 : decode b_Mo_write 94 = .ok (.bipush 8, 2) := by decide +kernel
theorem d_Mo_write_96 : decode b_Mo_write 96 = .ok (.iload 4, 2) := by decide +kernel
theorem d_Mo_write_98 : decode b_Mo_write 98 = .ok (.imul, 1) := by decide +kernel
theorem d_Mo_write_99 : decode b_Mo_write 99 = .ok (.lushr, 1) := by decide +kernel
theorem d_Mo_write_100 : decode b_Mo_write 100 = .ok (.l2i, 1) := by decide +kernel
theorem d_Mo_write_101 : decode b_Mo_write 101 = .ok (.sipush 255, 3) := by decide +kernel
theorem d_Mo_write_104 : decode b_Mo_write 104 = .ok (.iand, 1) := by decide +kernel
theorem d_Mo_write_105 : decode b_Mo_write 105 = .ok (.istore 5, 2) := by decide +kernel
theorem d_Mo_write_107 : decode b_Mo_write 107 = .ok (.iload 5, 2) := by decide +kernel
theorem d_Mo_write_109 : decode b_Mo_write 109 = .ok (.ifCond .eq 25, 3) := by decide +kernel
theorem d_Mo_write_112 : decode b_Mo_write 112 = .ok (.aload_n 0, 1) := by decide +kernel
theorem d_Mo_write_113 : decode b_Mo_write 113 = .ok (.getfield 7, 3) := by decide +kernel
theorem d_Mo_write_116 : decode b_Mo_write 116 = .ok (.aload_n 0, 1) := by decide +kernel
theorem d_Mo_write_117 : decode b_Mo_write 117 = .ok (.getfield 75, 3) := by decide +kernel
theorem d_Mo_write_120 : decode b_Mo_write 120 = .ok (.iload 5, 2) := by decide +kernel
theorem d_Mo_write_122 : decode b_Mo_write 122 = .ok (.i2c, 1) := by decide +kernel
theorem d_Mo_write_123 : decode b_Mo_write 123 = .ok (.castore, 1) := by decide +kernel
theorem d_Mo_write_124 : decode b_Mo_write 124 = .ok (.aload_n 0, 1) := by decide +kernel
theorem d_Mo_write_125 : decode b_Mo_write 125 = .ok (.dup, 1) := by decide +kernel
theorem d_Mo_write_126 : decode b_Mo_write 126 = .ok (.getfield 75, 3) := by decide +kernel
theorem d_Mo_write_129 : decode b_Mo_write 129 = .ok (.iconst 1, 1) := by decide +kernel
theorem d_Mo_write_130 : decode b_Mo_write 130 = .ok (.iadd, 1) := by decide +kernel
theorem d_Mo_write_131 : decode b_Mo_write 131 = .ok (.putfield 75, 3) := by decide +kernel
theorem d_Mo_write_134 : decode b_Mo_write 134 = .ok (.iinc 4 (-1), 3) := by decide +kernel
theorem d_Mo_write_137 : decode b_Mo_write 137 = .ok (.goto (-49), 3) := by decide +kernel
theorem d_Mo_write_140 : decode b_Mo_write 140 = .ok (.iconst 1, 1) := by decide +kernel
theorem d_Mo_write_141 : decode b_Mo_write 141 = .ok (.ireturn, 1) := by decide +kernel

def k_write_88 : Nat → nM → Int64 → Int32 → nM × Int32
  | 0, x, v1, v4 => (x, 0)
  | n + 1, x, v1, v4 => (if v4 < 0 then (x, 1) else (if (((v1.toUInt64 >>> ((8 * v4).toInt64.toUInt64 &&& Int64.toUInt64 63)).toInt64).toInt32) &&& 255 = 0 then k_write_88 n x v1 (v4 + (-1)) else k_write_88 n (nm_f (nm_a x 2 (x.1 1) (vp_nar .char ((((((v1.toUInt64 >>> ((8 * v4).toInt64.toUInt64 &&& Int64.toUInt64 63)).toInt64).toInt32) &&& 255).toUInt32 % 65536).toInt32))) 1 ((x.1 1) + 1)) v1 (v4 + (-1))))
def p_write_88 : Nat → nM → Int64 → Int32 → Prop
  | 0, _, _, _ => False
  | n + 1, x, v1, v4 => ((v4 < 0 → True) ∧ (¬ (v4 < 0) → (((((v1.toUInt64 >>> ((8 * v4).toInt64.toUInt64 &&& Int64.toUInt64 63)).toInt64).toInt32) &&& 255 = 0 → p_write_88 n x v1 (v4 + (-1))) ∧ (¬ ((((v1.toUInt64 >>> ((8 * v4).toInt64.toUInt64 &&& Int64.toUInt64 63)).toInt64).toInt32) &&& 255 = 0) → vp_in (x.1 1) 180 ∧ p_write_88 n (nm_f (nm_a x 2 (x.1 1) (vp_nar .char ((((((v1.toUInt64 >>> ((8 * v4).toInt64.toUInt64 &&& Int64.toUInt64 63)).toInt64).toInt32) &&& 255).toUInt32 % 65536).toInt32))) 1 ((x.1 1) + 1)) v1 (v4 + (-1))))))
def k_write_11 : Nat → nM → Int64 → Int32 → Int32 → nM × Int32
  | 0, x, v1, v3, v4 => (x, 0)
  | n + 1, x, v1, v3, v4 => (if v4 < 0 then (if (x.1 1) + v3 ≤ 180 then k_write_88 300 x v1 7 else (x, 0)) else (if (((v1.toUInt64 >>> ((8 * v4).toInt64.toUInt64 &&& Int64.toUInt64 63)).toInt64).toInt32) &&& 255 = 0 then (if (((v1.toUInt64 >>> ((8 * v4).toInt64.toUInt64 &&& Int64.toUInt64 63)).toInt64).toInt32) &&& 255 = 0 then k_write_11 n x v1 v3 (v4 + (-1)) else k_write_11 n x v1 (v3 + 1) (v4 + (-1))) else (if (((v1.toUInt64 >>> ((8 * v4).toInt64.toUInt64 &&& Int64.toUInt64 63)).toInt64).toInt32) &&& 255 < 32 then (x, 0) else (if (((v1.toUInt64 >>> ((8 * v4).toInt64.toUInt64 &&& Int64.toUInt64 63)).toInt64).toInt32) &&& 255 ≤ 126 then (if (((v1.toUInt64 >>> ((8 * v4).toInt64.toUInt64 &&& Int64.toUInt64 63)).toInt64).toInt32) &&& 255 = 0 then k_write_11 n x v1 v3 (v4 + (-1)) else k_write_11 n x v1 (v3 + 1) (v4 + (-1))) else (x, 0)))))
def p_write_11 : Nat → nM → Int64 → Int32 → Int32 → Prop
  | 0, _, _, _, _ => False
  | n + 1, x, v1, v3, v4 => ((v4 < 0 → (((x.1 1) + v3 ≤ 180 → p_write_88 300 x v1 7) ∧ (¬ ((x.1 1) + v3 ≤ 180) → True))) ∧ (¬ (v4 < 0) → (((((v1.toUInt64 >>> ((8 * v4).toInt64.toUInt64 &&& Int64.toUInt64 63)).toInt64).toInt32) &&& 255 = 0 → (((((v1.toUInt64 >>> ((8 * v4).toInt64.toUInt64 &&& Int64.toUInt64 63)).toInt64).toInt32) &&& 255 = 0 → p_write_11 n x v1 v3 (v4 + (-1))) ∧ (¬ ((((v1.toUInt64 >>> ((8 * v4).toInt64.toUInt64 &&& Int64.toUInt64 63)).toInt64).toInt32) &&& 255 = 0) → p_write_11 n x v1 (v3 + 1) (v4 + (-1))))) ∧ (¬ ((((v1.toUInt64 >>> ((8 * v4).toInt64.toUInt64 &&& Int64.toUInt64 63)).toInt64).toInt32) &&& 255 = 0) → (((((v1.toUInt64 >>> ((8 * v4).toInt64.toUInt64 &&& Int64.toUInt64 63)).toInt64).toInt32) &&& 255 < 32 → True) ∧ (¬ ((((v1.toUInt64 >>> ((8 * v4).toInt64.toUInt64 &&& Int64.toUInt64 63)).toInt64).toInt32) &&& 255 < 32) → (((((v1.toUInt64 >>> ((8 * v4).toInt64.toUInt64 &&& Int64.toUInt64 63)).toInt64).toInt32) &&& 255 ≤ 126 → (((((v1.toUInt64 >>> ((8 * v4).toInt64.toUInt64 &&& Int64.toUInt64 63)).toInt64).toInt32) &&& 255 = 0 → p_write_11 n x v1 v3 (v4 + (-1))) ∧ (¬ ((((v1.toUInt64 >>> ((8 * v4).toInt64.toUInt64 &&& Int64.toUInt64 63)).toInt64).toInt32) &&& 255 = 0) → p_write_11 n x v1 (v3 + 1) (v4 + (-1))))) ∧ (¬ ((((v1.toUInt64 >>> ((8 * v4).toInt64.toUInt64 &&& Int64.toUInt64 63)).toInt64).toInt32) &&& 255 ≤ 126) → True))))))))
def m_write (x : nM) (a1 : Int64) : nM × Int32 := k_write_11 300 (nm_f x 0 0) a1 0 7
def o_write (x : nM) (a1 : Int64) : Prop := p_write_11 300 (nm_f x 0 0) a1 0 7
set_option maxHeartbeats 4000000 in
set_option maxRecDepth 100000 in
theorem t_write (l : Launch) (G : nn_G) (sz : Nat) (mo : Nat) (ad : Nat → Nat) (x : nM) (a1 : Int64) (hk : o_write x a1) : Met l y_Mo_write w_Mo_write ({ frames := 0, cells := 0, slots := 0, locals := 0 }) (nn_P G [.ref mo, .long a1] (nm_W G mo ad x) sz) (nm_Qi G mo ad (m_write x a1) (va_A (nm_W G mo ad x) sz)) 0 0 (va_A (nm_W G mo ad x) sz) := by
  refine Met.ofW (cc := b_Mo_write) (maxL := 6) (ret := some .boolean) (by decide) rfl ?_
  intro p e s m args below meth c s₁ B hml hv
  obtain ⟨rfl, hsz, hP, hK, hD0, hN⟩ := hv
  have hx := B.exec
  have hb := B.bytes
  have hr := B.returns
  have hts := atoms_spec (ws := w_Mo_write) B.pre
  have hg : ∀ w ∈ nn_gw, w.before _ s = true := fun w h => hts w (List.mem_cons_of_mem _ h)
  have hown : s.vm.findClass R_Mo = some m.cls := findClass_of_methodNamed B.named
  subst hsz
  have hD := hD0.self (sz := s.heap.size)
  generalize hAe : va_A (nm_W G mo ad x) s.heap.size = A at hD ⊢
  have hA : ∀ q : Nat, s.heap.size ≤ q → A q := fun q h => by rw [← hAe]; exact Or.inr h
  clear hAe
  have hS : va_S A s.heap s.heap [] := va_S.rf
  have hP : va_P G.1 nn_cls (nm_W G mo ad x) s.heap := hP
  have hl := lv_entry ([.ref mo, .long a1]) (n := 6) (Nat.le_of_ble_eq_true rfl)
  rw [lg_entry_eq]
  generalize (lg_sl ([.ref mo, .long a1]) ++ List.replicate (6 - (lg_sl ([.ref mo, .long a1])).length) Slot.unset).toArray = ls at hl ⊢
  have hl : lv_has ls 6 [(0, .ref mo), (1, .long a1)] := hl
  have J88 : ∀ (n : Nat) (x : nM) (v1 : Int64) (v4 : Int32) (ls : Array Slot) (H : Heap) (locs : List Loc), p_write_88 n x v1 v4 → lv_has ls 6 [(0, .ref mo), (1, .long v1), (4, .int v4)] → va_P G.1 nn_cls (nm_W G mo ad x) H → va_D A (nm_W G mo ad x) → va_S A s.heap H locs → W p l e (headSpec w_Mo_write ({ frames := 0, cells := 0, slots := 0, locals := 0 })).room s m [.ref mo, .long a1].toArray below meth c H locs 0 0 (MQ below (nm_Qi G mo ad (k_write_88 n x v1 v4) A) [.ref mo, .long a1].toArray s 0 0 A) (F0 m 88 ls []) := by
    intro n
    induction n with
    | zero =>
      intro x v1 v4 ls H locs hk
      exact (show False from hk).elim
    | succ n ih =>
      intro x v1 v4 ls H locs hk hl hP hD hS
      unfold p_write_88 at hk
      refine lv_iload hx hb d_Mo_write_88 (lv_at hl 2 rfl) ?_
      refine lv_if_lt (tgt := 140) hx hb d_Mo_write_90 rfl (fun hc90 => ?_) (fun hc90 => ?_)
      · skip
        have hk := hk.1 hc90
        refine lv_iconst (v := 1) hx hb d_Mo_write_140 (by decide) ?_
        have hR : k_write_88 (n + 1) x v1 v4 = (x, 1) := by rw [k_write_88]; rw [if_pos hc90]
        refine nm_W2 hR ?_
        exact W.zret (v := 1) hx hb hr rfl (fun t ht hW => ⟨⟨1, (), rfl, rfl, ⟨by rw [ht]; exact hP, hD⟩⟩, hS.F ht⟩) hS.2.2 d_Mo_write_141
      · skip
        have hk := hk.2 hc90
        refine lv_lload_n hx hb d_Mo_write_93 rfl (lv_at hl 1 rfl) ?_
        refine lv_bipush (v := 8) hx hb d_Mo_write_94 (by decide) ?_
        refine lv_iload hx hb d_Mo_write_96 (lv_at hl 2 rfl) ?_
        refine lv_imul hx hb d_Mo_write_98 ?_
        refine lv_lushr (v := (v1.toUInt64 >>> ((8 * v4).toInt64.toUInt64 &&& Int64.toUInt64 63)).toInt64) hx hb d_Mo_write_99 rfl ?_
        refine lv_l2i (v := ((v1.toUInt64 >>> ((8 * v4).toInt64.toUInt64 &&& Int64.toUInt64 63)).toInt64).toInt32) hx hb d_Mo_write_100 rfl ?_
        refine lv_sipush (v := 255) hx hb d_Mo_write_101 (by decide) ?_
        refine lv_iand hx hb d_Mo_write_104 ?_
        refine lv_istore (lv' := [(5, .int ((((v1.toUInt64 >>> ((8 * v4).toInt64.toUInt64 &&& Int64.toUInt64 63)).toInt64).toInt32) &&& 255)), (0, .ref mo), (1, .long v1), (4, .int v4)]) hx hb d_Mo_write_105 hl (by decide) rfl (fun ls hl => ?_)
        refine lv_iload hx hb d_Mo_write_107 (lv_at hl 0 rfl) ?_
        refine lv_if_eq (tgt := 134) hx hb d_Mo_write_109 rfl (fun hc109 => ?_) (fun hc109 => ?_)
        · skip
          have hk := hk.1 hc109
          refine lv_iinc (k := 3) (v := v4 + (-1)) (lv' := [(4, .int (v4 + (-1))), (5, .int ((((v1.toUInt64 >>> ((8 * v4).toInt64.toUInt64 &&& Int64.toUInt64 63)).toInt64).toInt32) &&& 255)), (0, .ref mo), (1, .long v1)]) hx hb d_Mo_write_134 hl rfl (by rw [show Int32.ofInt (-1) = (-1 : Int32) by decide]) (by decide) rfl (fun ls hl => ?_)
          refine lv_goto (tgt := 88) hx hb d_Mo_write_137 rfl ?_
          have hl := lv_sub (l' := [(0, .ref mo), (1, .long v1), (4, .int (v4 + (-1)))]) hl [2, 3, 0] rfl
          have hR : k_write_88 (n + 1) x v1 v4 = k_write_88 n x v1 (v4 + (-1)) := by rw [k_write_88]; rw [if_neg hc90]; rw [if_pos hc109]
          exact nm_W2 hR (ih x v1 (v4 + (-1)) ls _ _ hk hl hP hD hS)
        · skip
          have hk := hk.2 hc109
          refine lv_aload_n hx hb d_Mo_write_112 rfl (lv_at hl 1 rfl) ?_
          refine nm_getA hx hb hg hown hK hP 2 (by decide) (by decide) (hg _ mw_892) d_Mo_write_113 ?_
          refine lv_aload_n hx hb d_Mo_write_116 rfl (lv_at hl 1 rfl) ?_
          refine nm_get hx hb hg hown hK hP 1 (by decide) (by decide) (hg _ mw_891) d_Mo_write_117 ?_
          refine lv_iload hx hb d_Mo_write_120 (lv_at hl 0 rfl) ?_
          refine lv_i2c (v := (((((v1.toUInt64 >>> ((8 * v4).toInt64.toUInt64 &&& Int64.toUInt64 63)).toInt64).toInt32) &&& 255).toUInt32 % 65536).toInt32) hx hb d_Mo_write_122 rfl ?_
          obtain ⟨hi, hk⟩ := hk
          refine nm_stc hx hb hK hP hD hS hi d_Mo_write_123 (fun H locs hP hD hS => ?_)
          refine lv_aload_n hx hb d_Mo_write_124 rfl (lv_at hl 1 rfl) ?_
          refine lv_dup hx hb d_Mo_write_125 rfl ?_
          refine nm_get hx hb hg hown hK hP 1 (by decide) (by decide) (hg _ mw_891) d_Mo_write_126 ?_
          refine nb_top (x.1 1) rfl ?_
          refine lv_iconst (v := 1) hx hb d_Mo_write_129 (by decide) ?_
          refine lv_iadd hx hb d_Mo_write_130 ?_
          refine nm_put hx hb hg hown hK hP hD hS 1 (by decide) (by decide) (by decide) (hg _ mw_891) d_Mo_write_131 (fun H locs hP hD hS => ?_)
          refine lv_iinc (k := 3) (v := v4 + (-1)) (lv' := [(4, .int (v4 + (-1))), (5, .int ((((v1.toUInt64 >>> ((8 * v4).toInt64.toUInt64 &&& Int64.toUInt64 63)).toInt64).toInt32) &&& 255)), (0, .ref mo), (1, .long v1)]) hx hb d_Mo_write_134 hl rfl (by rw [show Int32.ofInt (-1) = (-1 : Int32) by decide]) (by decide) rfl (fun ls hl => ?_)
          refine lv_goto (tgt := 88) hx hb d_Mo_write_137 rfl ?_
          have hl := lv_sub (l' := [(0, .ref mo), (1, .long v1), (4, .int (v4 + (-1)))]) hl [2, 3, 0] rfl
          have hR : k_write_88 (n + 1) x v1 v4 = k_write_88 n (nm_f (nm_a x 2 (x.1 1) (vp_nar .char ((((((v1.toUInt64 >>> ((8 * v4).toInt64.toUInt64 &&& Int64.toUInt64 63)).toInt64).toInt32) &&& 255).toUInt32 % 65536).toInt32))) 1 ((x.1 1) + 1)) v1 (v4 + (-1)) := by rw [k_write_88]; rw [if_neg hc90]; rw [if_neg hc109]
          exact nm_W2 hR (ih (nm_f (nm_a x 2 (x.1 1) (vp_nar .char ((((((v1.toUInt64 >>> ((8 * v4).toInt64.toUInt64 &&& Int64.toUInt64 63)).toInt64).toInt32) &&& 255).toUInt32 % 65536).toInt32))) 1 ((x.1 1) + 1)) v1 (v4 + (-1)) ls _ _ hk hl hP hD hS)
  have J11 : ∀ (n : Nat) (x : nM) (v1 : Int64) (v3 : Int32) (v4 : Int32) (ls : Array Slot) (H : Heap) (locs : List Loc), p_write_11 n x v1 v3 v4 → lv_has ls 6 [(0, .ref mo), (1, .long v1), (3, .int v3), (4, .int v4)] → va_P G.1 nn_cls (nm_W G mo ad x) H → va_D A (nm_W G mo ad x) → va_S A s.heap H locs → W p l e (headSpec w_Mo_write ({ frames := 0, cells := 0, slots := 0, locals := 0 })).room s m [.ref mo, .long a1].toArray below meth c H locs 0 0 (MQ below (nm_Qi G mo ad (k_write_11 n x v1 v3 v4) A) [.ref mo, .long a1].toArray s 0 0 A) (F0 m 11 ls []) := by
    intro n
    induction n with
    | zero =>
      intro x v1 v3 v4 ls H locs hk
      exact (show False from hk).elim
    | succ n ih =>
      intro x v1 v3 v4 ls H locs hk hl hP hD hS
      unfold p_write_11 at hk
      refine lv_iload hx hb d_Mo_write_11 (lv_at hl 3 rfl) ?_
      refine lv_if_lt (tgt := 70) hx hb d_Mo_write_13 rfl (fun hc13 => ?_) (fun hc13 => ?_)
      · skip
        have hk := hk.1 hc13
        refine lv_aload_n hx hb d_Mo_write_70 rfl (lv_at hl 0 rfl) ?_
        refine nm_get hx hb hg hown hK hP 1 (by decide) (by decide) (hg _ mw_891) d_Mo_write_71 ?_
        refine lv_iload_n hx hb d_Mo_write_74 rfl (lv_at hl 2 rfl) ?_
        refine lv_iadd hx hb d_Mo_write_75 ?_
        refine lv_sipush (v := 180) hx hb d_Mo_write_76 (by decide) ?_
        refine lv_icmp_le (tgt := 84) hx hb d_Mo_write_79 rfl (fun hc79 => ?_) (fun hc79 => ?_)
        · skip
          have hk := hk.1 hc79
          refine lv_bipush (v := 7) hx hb d_Mo_write_84 (by decide) ?_
          refine lv_istore (lv' := [(4, .int 7), (0, .ref mo), (1, .long v1), (3, .int v3)]) hx hb d_Mo_write_86 hl (by decide) rfl (fun ls hl => ?_)
          have hl := lv_sub (l' := [(0, .ref mo), (1, .long v1), (4, .int 7)]) hl [1, 2, 0] rfl
          have hR : k_write_11 (n + 1) x v1 v3 v4 = k_write_88 300 x v1 7 := by rw [k_write_11]; rw [if_pos hc13]; rw [if_pos hc79]
          exact nm_W2 hR (J88 300 x v1 7 ls _ _ hk hl hP hD hS)
        · skip
          have hk := hk.2 hc79
          refine lv_iconst (v := 0) hx hb d_Mo_write_82 (by decide) ?_
          have hR : k_write_11 (n + 1) x v1 v3 v4 = (x, 0) := by rw [k_write_11]; rw [if_pos hc13]; rw [if_neg hc79]
          refine nm_W2 hR ?_
          exact W.zret (v := 0) hx hb hr rfl (fun t ht hW => ⟨⟨0, (), rfl, rfl, ⟨by rw [ht]; exact hP, hD⟩⟩, hS.F ht⟩) hS.2.2 d_Mo_write_83
      · skip
        have hk := hk.2 hc13
        refine lv_lload_n hx hb d_Mo_write_16 rfl (lv_at hl 1 rfl) ?_
        refine lv_bipush (v := 8) hx hb d_Mo_write_17 (by decide) ?_
        refine lv_iload hx hb d_Mo_write_19 (lv_at hl 3 rfl) ?_
        refine lv_imul hx hb d_Mo_write_21 ?_
        refine lv_lushr (v := (v1.toUInt64 >>> ((8 * v4).toInt64.toUInt64 &&& Int64.toUInt64 63)).toInt64) hx hb d_Mo_write_22 rfl ?_
        refine lv_l2i (v := ((v1.toUInt64 >>> ((8 * v4).toInt64.toUInt64 &&& Int64.toUInt64 63)).toInt64).toInt32) hx hb d_Mo_write_23 rfl ?_
        refine lv_sipush (v := 255) hx hb d_Mo_write_24 (by decide) ?_
        refine lv_iand hx hb d_Mo_write_27 ?_
        refine lv_istore (lv' := [(5, .int ((((v1.toUInt64 >>> ((8 * v4).toInt64.toUInt64 &&& Int64.toUInt64 63)).toInt64).toInt32) &&& 255)), (0, .ref mo), (1, .long v1), (3, .int v3), (4, .int v4)]) hx hb d_Mo_write_28 hl (by decide) rfl (fun ls hl => ?_)
        refine lv_iload hx hb d_Mo_write_30 (lv_at hl 0 rfl) ?_
        refine lv_if_eq (tgt := 51) hx hb d_Mo_write_32 rfl (fun hc32 => ?_) (fun hc32 => ?_)
        · skip
          have hk := hk.1 hc32
          refine lv_iload hx hb d_Mo_write_51 (lv_at hl 0 rfl) ?_
          refine lv_if_eq (tgt := 62) hx hb d_Mo_write_53 rfl (fun hc53 => ?_) (fun hc53 => ?_)
          · skip
            have hk := hk.1 hc53
            refine lv_iload_n hx hb d_Mo_write_62 rfl (lv_at hl 3 rfl) ?_
            refine lv_istore_n (lv' := [(3, .int v3), (5, .int ((((v1.toUInt64 >>> ((8 * v4).toInt64.toUInt64 &&& Int64.toUInt64 63)).toInt64).toInt32) &&& 255)), (0, .ref mo), (1, .long v1), (4, .int v4)]) hx hb d_Mo_write_63 rfl hl (by decide) rfl (fun ls hl => ?_)
            refine lv_iinc (k := 4) (v := v4 + (-1)) (lv' := [(4, .int (v4 + (-1))), (3, .int v3), (5, .int ((((v1.toUInt64 >>> ((8 * v4).toInt64.toUInt64 &&& Int64.toUInt64 63)).toInt64).toInt32) &&& 255)), (0, .ref mo), (1, .long v1)]) hx hb d_Mo_write_64 hl rfl (by rw [show Int32.ofInt (-1) = (-1 : Int32) by decide]) (by decide) rfl (fun ls hl => ?_)
            refine lv_goto (tgt := 11) hx hb d_Mo_write_67 rfl ?_
            have hl := lv_sub (l' := [(0, .ref mo), (1, .long v1), (3, .int v3), (4, .int (v4 + (-1)))]) hl [3, 4, 1, 0] rfl
            have hR : k_write_11 (n + 1) x v1 v3 v4 = k_write_11 n x v1 v3 (v4 + (-1)) := by rw [k_write_11]; rw [if_neg hc13]; rw [if_pos hc32]; rw [if_pos hc53]
            exact nm_W2 hR (ih x v1 v3 (v4 + (-1)) ls _ _ hk hl hP hD hS)
          · skip
            have hk := hk.2 hc53
            refine lv_iload_n hx hb d_Mo_write_56 rfl (lv_at hl 3 rfl) ?_
            refine lv_iconst (v := 1) hx hb d_Mo_write_57 (by decide) ?_
            refine lv_iadd hx hb d_Mo_write_58 ?_
            refine lv_goto (tgt := 63) hx hb d_Mo_write_59 rfl ?_
            refine lv_istore_n (lv' := [(3, .int (v3 + 1)), (5, .int ((((v1.toUInt64 >>> ((8 * v4).toInt64.toUInt64 &&& Int64.toUInt64 63)).toInt64).toInt32) &&& 255)), (0, .ref mo), (1, .long v1), (4, .int v4)]) hx hb d_Mo_write_63 rfl hl (by decide) rfl (fun ls hl => ?_)
            refine lv_iinc (k := 4) (v := v4 + (-1)) (lv' := [(4, .int (v4 + (-1))), (3, .int (v3 + 1)), (5, .int ((((v1.toUInt64 >>> ((8 * v4).toInt64.toUInt64 &&& Int64.toUInt64 63)).toInt64).toInt32) &&& 255)), (0, .ref mo), (1, .long v1)]) hx hb d_Mo_write_64 hl rfl (by rw [show Int32.ofInt (-1) = (-1 : Int32) by decide]) (by decide) rfl (fun ls hl => ?_)
            refine lv_goto (tgt := 11) hx hb d_Mo_write_67 rfl ?_
            have hl := lv_sub (l' := [(0, .ref mo), (1, .long v1), (3, .int (v3 + 1)), (4, .int (v4 + (-1)))]) hl [3, 4, 1, 0] rfl
            have hR : k_write_11 (n + 1) x v1 v3 v4 = k_write_11 n x v1 (v3 + 1) (v4 + (-1)) := by rw [k_write_11]; rw [if_neg hc13]; rw [if_pos hc32]; rw [if_neg hc53]
            exact nm_W2 hR (ih x v1 (v3 + 1) (v4 + (-1)) ls _ _ hk hl hP hD hS)
        · skip
          have hk := hk.2 hc32
          refine lv_iload hx hb d_Mo_write_35 (lv_at hl 0 rfl) ?_
          refine lv_bipush (v := 32) hx hb d_Mo_write_37 (by decide) ?_
          refine lv_icmp_lt (tgt := 49) hx hb d_Mo_write_39 rfl (fun hc39 => ?_) (fun hc39 => ?_)
          · skip
            have hk := hk.1 hc39
            refine lv_iconst (v := 0) hx hb d_Mo_write_49 (by decide) ?_
            have hR : k_write_11 (n + 1) x v1 v3 v4 = (x, 0) := by rw [k_write_11]; rw [if_neg hc13]; rw [if_neg hc32]; rw [if_pos hc39]
            refine nm_W2 hR ?_
            exact W.zret (v := 0) hx hb hr rfl (fun t ht hW => ⟨⟨0, (), rfl, rfl, ⟨by rw [ht]; exact hP, hD⟩⟩, hS.F ht⟩) hS.2.2 d_Mo_write_50
          · skip
            have hk := hk.2 hc39
            refine lv_iload hx hb d_Mo_write_42 (lv_at hl 0 rfl) ?_
            refine lv_bipush (v := 126) hx hb d_Mo_write_44 (by decide) ?_
            refine lv_icmp_le (tgt := 51) hx hb d_Mo_write_46 rfl (fun hc46 => ?_) (fun hc46 => ?_)
            · skip
              have hk := hk.1 hc46
              refine lv_iload hx hb d_Mo_write_51 (lv_at hl 0 rfl) ?_
              refine lv_if_eq (tgt := 62) hx hb d_Mo_write_53 rfl (fun hc53 => ?_) (fun hc53 => ?_)
              · skip
                have hk := hk.1 hc53
                refine lv_iload_n hx hb d_Mo_write_62 rfl (lv_at hl 3 rfl) ?_
                refine lv_istore_n (lv' := [(3, .int v3), (5, .int ((((v1.toUInt64 >>> ((8 * v4).toInt64.toUInt64 &&& Int64.toUInt64 63)).toInt64).toInt32) &&& 255)), (0, .ref mo), (1, .long v1), (4, .int v4)]) hx hb d_Mo_write_63 rfl hl (by decide) rfl (fun ls hl => ?_)
                refine lv_iinc (k := 4) (v := v4 + (-1)) (lv' := [(4, .int (v4 + (-1))), (3, .int v3), (5, .int ((((v1.toUInt64 >>> ((8 * v4).toInt64.toUInt64 &&& Int64.toUInt64 63)).toInt64).toInt32) &&& 255)), (0, .ref mo), (1, .long v1)]) hx hb d_Mo_write_64 hl rfl (by rw [show Int32.ofInt (-1) = (-1 : Int32) by decide]) (by decide) rfl (fun ls hl => ?_)
                refine lv_goto (tgt := 11) hx hb d_Mo_write_67 rfl ?_
                have hl := lv_sub (l' := [(0, .ref mo), (1, .long v1), (3, .int v3), (4, .int (v4 + (-1)))]) hl [3, 4, 1, 0] rfl
                have hR : k_write_11 (n + 1) x v1 v3 v4 = k_write_11 n x v1 v3 (v4 + (-1)) := by rw [k_write_11]; rw [if_neg hc13]; rw [if_neg hc32]; rw [if_neg hc39]; rw [if_pos hc46]; rw [if_pos hc53]
                exact nm_W2 hR (ih x v1 v3 (v4 + (-1)) ls _ _ hk hl hP hD hS)
              · skip
                have hk := hk.2 hc53
                refine lv_iload_n hx hb d_Mo_write_56 rfl (lv_at hl 3 rfl) ?_
                refine lv_iconst (v := 1) hx hb d_Mo_write_57 (by decide) ?_
                refine lv_iadd hx hb d_Mo_write_58 ?_
                refine lv_goto (tgt := 63) hx hb d_Mo_write_59 rfl ?_
                refine lv_istore_n (lv' := [(3, .int (v3 + 1)), (5, .int ((((v1.toUInt64 >>> ((8 * v4).toInt64.toUInt64 &&& Int64.toUInt64 63)).toInt64).toInt32) &&& 255)), (0, .ref mo), (1, .long v1), (4, .int v4)]) hx hb d_Mo_write_63 rfl hl (by decide) rfl (fun ls hl => ?_)
                refine lv_iinc (k := 4) (v := v4 + (-1)) (lv' := [(4, .int (v4 + (-1))), (3, .int (v3 + 1)), (5, .int ((((v1.toUInt64 >>> ((8 * v4).toInt64.toUInt64 &&& Int64.toUInt64 63)).toInt64).toInt32) &&& 255)), (0, .ref mo), (1, .long v1)]) hx hb d_Mo_write_64 hl rfl (by rw [show Int32.ofInt (-1) = (-1 : Int32) by decide]) (by decide) rfl (fun ls hl => ?_)
                refine lv_goto (tgt := 11) hx hb d_Mo_write_67 rfl ?_
                have hl := lv_sub (l' := [(0, .ref mo), (1, .long v1), (3, .int (v3 + 1)), (4, .int (v4 + (-1)))]) hl [3, 4, 1, 0] rfl
                have hR : k_write_11 (n + 1) x v1 v3 v4 = k_write_11 n x v1 (v3 + 1) (v4 + (-1)) := by rw [k_write_11]; rw [if_neg hc13]; rw [if_neg hc32]; rw [if_neg hc39]; rw [if_pos hc46]; rw [if_neg hc53]
                exact nm_W2 hR (ih x v1 (v3 + 1) (v4 + (-1)) ls _ _ hk hl hP hD hS)
            · skip
              have hk := hk.2 hc46
              refine lv_iconst (v := 0) hx hb d_Mo_write_49 (by decide) ?_
              have hR : k_write_11 (n + 1) x v1 v3 v4 = (x, 0) := by rw [k_write_11]; rw [if_neg hc13]; rw [if_neg hc32]; rw [if_neg hc39]; rw [if_neg hc46]
              refine nm_W2 hR ?_
              exact W.zret (v := 0) hx hb hr rfl (fun t ht hW => ⟨⟨0, (), rfl, rfl, ⟨by rw [ht]; exact hP, hD⟩⟩, hS.F ht⟩) hS.2.2 d_Mo_write_50
  unfold o_write at hk
  refine lv_aload_n hx hb d_Mo_write_0 rfl (lv_at hl 0 rfl) ?_
  refine lv_iconst (v := 0) hx hb d_Mo_write_1 (by decide) ?_
  refine nm_put hx hb hg hown hK hP hD hS 0 (by decide) (by decide) (by decide) (hg _ mw_890) d_Mo_write_2 (fun H locs hP hD hS => ?_)
  refine lv_iconst (v := 0) hx hb d_Mo_write_5 (by decide) ?_
  refine lv_istore_n (lv' := [(3, .int 0), (0, .ref mo), (1, .long a1)]) hx hb d_Mo_write_6 rfl hl (by decide) rfl (fun ls hl => ?_)
  refine lv_bipush (v := 7) hx hb d_Mo_write_7 (by decide) ?_
  refine lv_istore (lv' := [(4, .int 7), (3, .int 0), (0, .ref mo), (1, .long a1)]) hx hb d_Mo_write_9 hl (by decide) rfl (fun ls hl => ?_)
  have hl := lv_sub (l' := [(0, .ref mo), (1, .long a1), (3, .int 0), (4, .int 7)]) hl [2, 3, 1, 0] rfl
  have hR : m_write x a1 = k_write_11 300 (nm_f x 0 0) a1 0 7 := by rw [m_write]
  exact nm_W2 hR (J11 300 (nm_f x 0 0) a1 0 7 ls _ _ hk hl hP hD hS)
