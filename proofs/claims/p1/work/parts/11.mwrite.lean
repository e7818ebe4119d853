/-! contracts (by wip/p1/gen.py) -/
theorem mw_891 : (.fieldLink R_Mo 75 R_Mo "typed" "I" : Cond) ∈ nn_gw := nn_at 891 (by decide +kernel) (by decide +kernel)
theorem d_Mo_write_0 : decode b_Mo_write 0 = .ok (.aload_n 0, 1) := by decide +kernel
theorem d_Mo_write_1 : decode b_Mo_write 1 = .ok (.iconst 0, 1) := by decide +kernel
theorem d_Mo_write_2 : decode b_Mo_write 2 = .ok (.putfield 72, 3) := by decide +kernel
theorem d_Mo_write_5 : decode b_Mo_write 5 = .ok (.iconst 0, 1) := by decide +kernel
theorem d_Mo_write_6 : decode b_Mo_write 6 = .ok (.istore_n 3, 1) := by decide +kernel
theorem d_Mo_write_7 : decode b_Mo_write 7 = .ok (.bipush 7, 2) := by decide +kernel
theorem d_Mo_write_9 : decode b_Mo_write 9 = .ok (.istore 4, 2) := by decide +kernel
theorem d_Mo_write_11 : decode b_Mo_write 11 = .ok (.iload 4, 2) := by decide +kernel
theorem d_Mo_write_13 : decode b_Mo_write 13 = .ok (.ifCond .lt 57, 3) := by decide +kernel
theorem d_Mo_write_16 : decode b_Mo_write 16 = .ok (.lload_n 1, 1) := by decide +kernel
theorem d_Mo_write_17 : decode b_Mo_write 17 = .ok (.bipush 8, 2) := by decide +kernel
theorem d_Mo_write_19 : decode b_Mo_write 19 = .ok (.iload 4, 2) := by decide +kernel
theorem d_Mo_write_21 : decode b_Mo_write 21 = .ok (.imul, 1) := by decide +kernel
theorem d_Mo_write_22 : decode b_Mo_write 22 = .ok (.lushr, 1) := by decide +kernel
theorem d_Mo_write_23 : decode b_Mo_write 23 = .ok (.l2i, 1) := by decide +kernel
theorem d_Mo_write_24 : decode b_Mo_write 24 = .ok (.sipush 255, 3) := by decide +kernel
theorem d_Mo_write_27 : decode b_Mo_write 27 = .ok (.iand, 1) := by decide +kernel
theorem d_Mo_write_28 : decode b_Mo_write 28 = .ok (.istore 5, 2) := by decide +kernel
theorem d_Mo_write_30 : decode b_Mo_write 30 = .ok (.iload 5, 2) := by decide +kernel
theorem d_Mo_write_32 : decode b_Mo_write 32 = .ok (.ifCond .eq 19, 3) := by decide +kernel
theorem d_Mo_write_35 : decode b_Mo_write 35 = .ok (.iload 5, 2) := by decide +kernel
theorem d_Mo_write_37 : decode b_Mo_write 37 = .ok (.bipush 32, 2) := by decide +kernel
theorem d_Mo_write_39 : decode b_Mo_write 39 = .ok (.if_icmp .lt 10, 3) := by decide +kernel
theorem d_Mo_write_42 : decode b_Mo_write 42 = .ok (.iload 5, 2) := by decide +kernel
theorem d_Mo_write_44 : decode b_Mo_write 44 = .ok (.bipush 126, 2) := by decide +kernel
theorem d_Mo_write_46 : decode b_Mo_write 46 = .ok (.if_icmp .le 5, 3) := by decide +kernel
theorem d_Mo_write_49 : decode b_Mo_write 49 = .ok (.iconst 0, 1) := by decide +kernel
theorem d_Mo_write_50 : decode b_Mo_write 50 = .ok (.ireturn, 1) := by decide +kernel
theorem d_Mo_write_51 : decode b_Mo_write 51 = .ok (.iload 5, 2) := by decide +kernel
theorem d_Mo_write_53 : decode b_Mo_write 53 = .ok (.ifCond .eq 9, 3) := by decide +kernel
theorem d_Mo_write_56 : decode b_Mo_write 56 = .ok (.iload_n 3, 1) := by decide +kernel
theorem d_Mo_write_57 : decode b_Mo_write 57 = .ok (.iconst 1, 1) := by decide +kernel
theorem d_Mo_write_58 : decode b_Mo_write 58 = .ok (.iadd, 1) := by decide +kernel
theorem d_Mo_write_59 : decode b_Mo_write 59 = .ok (.goto 4, 3) := by decide +kernel
theorem d_Mo_write_62 : decode b_Mo_write 62 = .ok (.iload_n 3, 1) := by decide +kernel
theorem d_Mo_write_63 : decode b_Mo_write 63 = .ok (.istore_n 3, 1) := by decide +kernel
theorem d_Mo_write_64 : decode b_Mo_write 64 = .ok (.iinc 4 (-1), 3) := by decide +kernel
theorem d_Mo_write_67 : decode b_Mo_write 67 = .ok (.goto (-56), 3) := by decide +kernel
theorem d_Mo_write_70 : decode b_Mo_write 70 = .ok (.aload_n 0, 1) := by decide +kernel
theorem d_Mo_write_71 : decode b_Mo_write 71 = .ok (.getfield 75, 3) := by decide +kernel
theorem d_Mo_write_74 : decode b_Mo_write 74 = .ok (.iload_n 3, 1) := by decide +kernel
theorem d_Mo_write_75 : decode b_Mo_write 75 = .ok (.iadd, 1) := by decide +kernel
theorem d_Mo_write_76 : decode b_Mo_write 76 = .ok (.sipush 180, 3) := by decide +kernel
theorem d_Mo_write_79 : decode b_Mo_write 79 = .ok (.if_icmp .le 5, 3) := by decide +kernel
theorem d_Mo_write_84 : decode b_Mo_write 84 = .ok (.bipush 7, 2) := by decide +kernel
theorem d_Mo_write_86 : decode b_Mo_write 86 = .ok (.istore 4, 2) := by decide +kernel
theorem d_Mo_write_88 : decode b_Mo_write 88 = .ok (.iload 4, 2) := by decide +kernel
theorem d_Mo_write_90 : decode b_Mo_write 90 = .ok (.ifCond .lt 50, 3) := by decide +kernel
theorem d_Mo_write_93 : decode b_Mo_write 93 = .ok (.lload_n 1, 1) := by decide +kernel
theorem d_Mo_write_94 : decode b_Mo_write 94 = .ok (.bipush 8, 2) := by decide +kernel
theorem d_Mo_write_96 : decode b_Mo_write 96 = .ok (.iload 4, 2) := by decide +kernel
theorem d_Mo_write_98 : decode b_Mo_write 98 = .ok (.imul, 1) := by decide +kernel
theorem d_Mo_write_99 : decode b_Mo_write 99 = .ok (.lushr, 1) := by decide +kernel
theorem d_Mo_write_100 : decode b_Mo_write 100 = .ok (.l2i, 1) := by decide +kernel
theorem d_Mo_write_101 : decode b_Mo_write 101 = .ok (.sipush 255, 3) := by decide +kernel
theorem d_Mo_write_104 : decode b_Mo_write 104 = .ok (.iand, 1) := by decide +kernel
theorem d_Mo_write_105 : decode b_Mo_write 105 = .ok (.istore 5, 2) := by decide +kernel
theorem d_Mo_write_107 : decode b_Mo_write 107 = .ok (.iload 5, 2) := by decide +kernel
theorem d_Mo_write_109 : decode b_Mo_write 109 = .ok (.ifCond .eq 25, 3) := by decide +kernel
theorem d_Mo_write_112 : decode b_Mo_write 112 = .ok (.aload_n 0, 1) := by decide +kernel
theorem d_Mo_write_113 : decode b_Mo_write 113 = .ok (.getfield 7, 3) := by decide +kernel
theorem d_Mo_write_116 : decode b_Mo_write 116 = .ok (.aload_n 0, 1) := by decide +kernel
theorem d_Mo_write_117 : decode b_Mo_write 117 = .ok (.getfield 75, 3) := by decide +kernel
theorem d_Mo_write_120 : decode b_Mo_write 120 = .ok (.iload 5, 2) := by decide +kernel
theorem d_Mo_write_122 : decode b_Mo_write 122 = .ok (.i2c, 1) := by decide +kernel
theorem d_Mo_write_123 : decode b_Mo_write 123 = .ok (.castore, 1) := by decide +kernel
theorem d_Mo_write_124 : decode b_Mo_write 124 = .ok (.aload_n 0, 1) := by decide +kernel
theorem d_Mo_write_125 : decode b_Mo_write 125 = .ok (.dup, 1) := by decide +kernel
theorem d_Mo_write_126 : decode b_Mo_write 126 = .ok (.getfield 75, 3) := by decide +kernel
theorem d_Mo_write_129 : decode b_Mo_write 129 = .ok (.iconst 1, 1) := by decide +kernel
theorem d_Mo_write_130 : decode b_Mo_write 130 = .ok (.iadd, 1) := by decide +kernel
theorem d_Mo_write_131 : decode b_Mo_write 131 = .ok (.putfield 75, 3) := by decide +kernel
theorem d_Mo_write_134 : decode b_Mo_write 134 = .ok (.iinc 4 (-1), 3) := by decide +kernel
theorem d_Mo_write_137 : decode b_Mo_write 137 = .ok (.goto (-49), 3) := by decide +kernel
theorem d_Mo_write_140 : decode b_Mo_write 140 = .ok (.iconst 1, 1) := by decide +kernel
theorem d_Mo_write_141 : decode b_Mo_write 141 = .ok (.ireturn, 1) := by decide +kernel

set_option maxHeartbeats 4000000 in
set_option maxRecDepth 100000 in
theorem c_Mo_write (l : Launch) (G : nn_G) (sz : Nat) (h0 z1 z2 z3 z4 z5 z6 z7 z8 z9 z10 z11 z12 z13 z14 z15 z16 z17 : Nat) (w : Int64) : Met l y_Mo_write w_Mo_write ({ frames := 0, cells := 0, slots := 0, locals := 0 }) (nn_P G [.ref h0, .long w] [(h0, .inr (7, [.int 0, .int 0, .ref z1, .int 0, .int 0, .int 0, .int 0, .int 0, .int 0, .int (-1), .int (-1), .int 0, .ref z2, .ref z3, .ref z4, .int 0, .ref z5, .ref z6, .ref z7, .ref z8, .ref z9, .int 0, .int 0, .int 0, .int 0, .int 0, .ref z10, .ref z11, .ref z12, .int 0, .ref z13, .ref z14, .ref z15, .int 0, .int 0, .int 0, .int 0, .int (-1), .int 0, .int 0, .ref z16, .ref z17])), (z1, .inl (G.2 1, 180, .inl (fun _ => 0)))] sz) (va_Qi (fun (r : Int32) (u : Unit) => r = nb_wr w) (fun u t => True) (va_A [(h0, .inr (7, [.int 0, .int 0, .ref z1, .int 0, .int 0, .int 0, .int 0, .int 0, .int 0, .int (-1), .int (-1), .int 0, .ref z2, .ref z3, .ref z4, .int 0, .ref z5, .ref z6, .ref z7, .ref z8, .ref z9, .int 0, .int 0, .int 0, .int 0, .int 0, .ref z10, .ref z11, .ref z12, .int 0, .ref z13, .ref z14, .ref z15, .int 0, .int 0, .int 0, .int 0, .int (-1), .int 0, .int 0, .ref z16, .ref z17])), (z1, .inl (G.2 1, 180, .inl (fun _ => 0)))] sz)) 0 0 (va_A [(h0, .inr (7, [.int 0, .int 0, .ref z1, .int 0, .int 0, .int 0, .int 0, .int 0, .int 0, .int (-1), .int (-1), .int 0, .ref z2, .ref z3, .ref z4, .int 0, .ref z5, .ref z6, .ref z7, .ref z8, .ref z9, .int 0, .int 0, .int 0, .int 0, .int 0, .ref z10, .ref z11, .ref z12, .int 0, .ref z13, .ref z14, .ref z15, .int 0, .int 0, .int 0, .int 0, .int (-1), .int 0, .int 0, .ref z16, .ref z17])), (z1, .inl (G.2 1, 180, .inl (fun _ => 0)))] sz) := by
  refine Met.ofW (cc := b_Mo_write) (maxL := 6) (ret := some .boolean) (by decide) rfl ?_
  intro p e s m args below meth c s₁ B hml hv
  obtain ⟨rfl, hsz, hP, hK, hD0, hN⟩ := hv
  have hx := B.exec
  have hb := B.bytes
  have hr := B.returns
  have hts := atoms_spec (ws := w_Mo_write) B.pre
  have hg : ∀ w ∈ nn_gw, w.before _ s = true := fun w h => hts w (List.mem_cons_of_mem _ h)
  have hown : s.vm.findClass R_Mo = some m.cls := findClass_of_methodNamed B.named
  have hlocks := B.notSynchronized
  subst hsz
  have hD := hD0.self (sz := s.heap.size)
  generalize hAe : va_A [(h0, .inr (7, [.int 0, .int 0, .ref z1, .int 0, .int 0, .int 0, .int 0, .int 0, .int 0, .int (-1), .int (-1), .int 0, .ref z2, .ref z3, .ref z4, .int 0, .ref z5, .ref z6, .ref z7, .ref z8, .ref z9, .int 0, .int 0, .int 0, .int 0, .int 0, .ref z10, .ref z11, .ref z12, .int 0, .ref z13, .ref z14, .ref z15, .int 0, .int 0, .int 0, .int 0, .int (-1), .int 0, .int 0, .ref z16, .ref z17])), (z1, .inl (G.2 1, 180, .inl (fun _ => 0)))] s.heap.size = A at hD ⊢
  have hA : ∀ q : Nat, s.heap.size ≤ q → A q := fun q h => by rw [← hAe]; exact Or.inr h
  have hS : va_S A s.heap s.heap [] := va_S.rf
  have hP : va_P G.1 nn_cls [(h0, .inr (7, [.int 0, .int 0, .ref z1, .int 0, .int 0, .int 0, .int 0, .int 0, .int 0, .int (-1), .int (-1), .int 0, .ref z2, .ref z3, .ref z4, .int 0, .ref z5, .ref z6, .ref z7, .ref z8, .ref z9, .int 0, .int 0, .int 0, .int 0, .int 0, .ref z10, .ref z11, .ref z12, .int 0, .ref z13, .ref z14, .ref z15, .int 0, .int 0, .int 0, .int 0, .int (-1), .int 0, .int 0, .ref z16, .ref z17])), (z1, .inl (G.2 1, 180, .inl (fun _ => 0)))] s.heap := hP
  have hl := lv_entry ([.ref h0, .long w]) (n := 6) (Nat.le_of_ble_eq_true rfl)
  rw [lg_entry_eq]
  generalize (lg_sl ([.ref h0, .long w]) ++ List.replicate (6 - (lg_sl ([.ref h0, .long w])).length) Slot.unset).toArray = ls at hl ⊢
  have hl : lv_has ls 6 [(0, .ref h0), (1, .long w)] := hl
  refine lv_aload_n hx hb d_Mo_write_0 rfl (lv_at hl 0 rfl) ?_
  refine lv_iconst (v := 0) hx hb d_Mo_write_1 (by decide) ?_
  refine va_put (D := G.1) (ci := 7) (v := .int 0) (ty := .int) (C := R_Mo) (T := T_Mo) (N := 42) hx hb hg in_Mo t_Mo ok_Mo nm_Mo hown hK hP hD hS 0 rfl rfl 0 (by decide) (hg _ mw_890) (fun _ h9 => h9) rfl (by decide +kernel) rfl rfl (Nat.le_of_ble_eq_true rfl) d_Mo_write_2 (fun H locs hP hD hS => ?_)
  have hP : va_P G.1 nn_cls [(h0, .inr (7, [.int 0, .int 0, .ref z1, .int 0, .int 0, .int 0, .int 0, .int 0, .int 0, .int (-1), .int (-1), .int 0, .ref z2, .ref z3, .ref z4, .int 0, .ref z5, .ref z6, .ref z7, .ref z8, .ref z9, .int 0, .int 0, .int 0, .int 0, .int 0, .ref z10, .ref z11, .ref z12, .int 0, .ref z13, .ref z14, .ref z15, .int 0, .int 0, .int 0, .int 0, .int (-1), .int 0, .int 0, .ref z16, .ref z17])), (z1, .inl (G.2 1, 180, .inl (fun _ => 0)))] H := hP
  have hD : va_D A [(h0, .inr (7, [.int 0, .int 0, .ref z1, .int 0, .int 0, .int 0, .int 0, .int 0, .int 0, .int (-1), .int (-1), .int 0, .ref z2, .ref z3, .ref z4, .int 0, .ref z5, .ref z6, .ref z7, .ref z8, .ref z9, .int 0, .int 0, .int 0, .int 0, .int 0, .ref z10, .ref z11, .ref z12, .int 0, .ref z13, .ref z14, .ref z15, .int 0, .int 0, .int 0, .int 0, .int (-1), .int 0, .int 0, .ref z16, .ref z17])), (z1, .inl (G.2 1, 180, .inl (fun _ => 0)))] := hD
  refine lv_iconst (v := 0) hx hb d_Mo_write_5 (by decide) ?_
  refine lv_istore_n (lv' := [(3, .int 0), (0, .ref h0), (1, .long w)]) hx hb d_Mo_write_6 rfl hl (by decide) rfl (fun ls hl => ?_)
  refine lv_bipush (v := 7) hx hb d_Mo_write_7 (by decide) ?_
  refine lv_istore (lv' := [(4, .int 7), (3, .int 0), (0, .ref h0), (1, .long w)]) hx hb d_Mo_write_9 hl (by decide) rfl (fun ls hl => ?_)
  rw [show (7 : Int32) = nI 8 + (-1) by decide] at hl
  have hl := lv_sub (l' := [(4, .int 7), (3, .int 0), (0, .ref h0), (1, .long w)]) hl [0, 1, 2, 3] rfl
  suffices loop : ∀ (j : Nat) (mm : Nat) (ls : Array Slot), mm + j ≤ 8 → nb_ok w 8 = nb_ok w j → lv_has ls 6 [(4, .int (nI j + (-1))), (3, .int (nI mm)), (0, .ref h0), (1, .long w)] → W p l e (headSpec w_Mo_write ({ frames := 0, cells := 0, slots := 0, locals := 0 })).room s m [.ref h0, .long w].toArray below meth c H locs 0 0 (MQ below (va_Qi (fun (r : Int32) (u : Unit) => r = nb_wr w) (fun u t => True) A) [.ref h0, .long w].toArray s 0 0 A) (F0 m 11 ls []) by
    exact loop 8 0 ls (by decide) rfl hl
  intro j
  induction j with
  | zero =>
    intro mm ls hm hok hl
    rw [show nI 0 + (-1) = (-1 : Int32) by decide] at hl
    refine lv_iload hx hb d_Mo_write_11 (lv_at hl 0 rfl) ?_
    refine lv_if_lt (tgt := 70) hx hb d_Mo_write_13 rfl (fun _ => ?_) (fun h => absurd (by decide) h)
    refine lv_aload_n hx hb d_Mo_write_70 rfl (lv_at hl 2 rfl) ?_
    refine va_get (D := G.1) (ci := 7) (v := .int 0) (C := R_Mo) (T := T_Mo) (N := 42) hx hb hg in_Mo hown hK hP 0 rfl rfl 1 (by decide) (hg _ mw_891) (fun _ h9 => h9) rfl d_Mo_write_71 ?_
    refine lv_iload_n hx hb d_Mo_write_74 rfl (lv_at hl 1 rfl) ?_
    refine lv_iadd hx hb d_Mo_write_75 ?_
    refine lv_sipush (v := 180) hx hb d_Mo_write_76 (by decide) ?_
    refine lv_icmp_le (tgt := 84) hx hb d_Mo_write_79 rfl (fun _ => ?_) (fun h => absurd (by rw [Int32.zero_add]; exact nb_mlt mm (by omega) _ 180 rfl (by decide) (by decide)) h)
    refine lv_bipush (v := 7) hx hb d_Mo_write_84 (by decide) ?_
    refine lv_istore (lv' := [(4, .int 7), (3, .int (nI mm)), (0, .ref h0), (1, .long w)]) hx hb d_Mo_write_86 hl (by decide) rfl (fun ls hl => ?_)
    rw [show (7 : Int32) = nI 8 + (-1) by decide] at hl
    have hl := lv_sub (l' := [(4, .int 7), (0, .ref h0), (1, .long w)]) hl [0, 2, 3] rfl
    have hP := hP.sub (ws' := [(h0, .inr (7, [.int 0, .int 0, .ref z1, .int 0, .int 0, .int 0, .int 0, .int 0, .int 0, .int (-1), .int (-1), .int 0, .ref z2, .ref z3, .ref z4, .int 0, .ref z5, .ref z6, .ref z7, .ref z8, .ref z9, .int 0, .int 0, .int 0, .int 0, .int 0, .ref z10, .ref z11, .ref z12, .int 0, .ref z13, .ref z14, .ref z15, .int 0, .int 0, .int 0, .int 0, .int (-1), .int 0, .int 0, .ref z16, .ref z17])), (z1, .inl (G.2 1, 180, .inl (fun _ => 0)))]) [0, 1] rfl
    have hD := hD.sub (ws' := [(h0, .inr (7, [.int 0, .int 0, .ref z1, .int 0, .int 0, .int 0, .int 0, .int 0, .int 0, .int (-1), .int (-1), .int 0, .ref z2, .ref z3, .ref z4, .int 0, .ref z5, .ref z6, .ref z7, .ref z8, .ref z9, .int 0, .int 0, .int 0, .int 0, .int 0, .ref z10, .ref z11, .ref z12, .int 0, .ref z13, .ref z14, .ref z15, .int 0, .int 0, .int 0, .int 0, .int (-1), .int 0, .int 0, .ref z16, .ref z17])), (z1, .inl (G.2 1, 180, .inl (fun _ => 0)))]) [0, 1] (by decide) rfl
    suffices loop : ∀ (j : Nat) (k : Nat) (f : Nat → Int32) (ls : Array Slot) (H : Heap) (locs : List Loc), k + j ≤ 8 → lv_has ls 6 [(4, .int (nI j + (-1))), (0, .ref h0), (1, .long w)] → va_P G.1 nn_cls [(h0, .inr (7, [.int 0, .int (nI k), .ref z1, .int 0, .int 0, .int 0, .int 0, .int 0, .int 0, .int (-1), .int (-1), .int 0, .ref z2, .ref z3, .ref z4, .int 0, .ref z5, .ref z6, .ref z7, .ref z8, .ref z9, .int 0, .int 0, .int 0, .int 0, .int 0, .ref z10, .ref z11, .ref z12, .int 0, .ref z13, .ref z14, .ref z15, .int 0, .int 0, .int 0, .int 0, .int (-1), .int 0, .int 0, .ref z16, .ref z17])), (z1, .inl (G.2 1, 180, .inl (f)))] H → va_D A [(h0, .inr (7, [.int 0, .int (nI k), .ref z1, .int 0, .int 0, .int 0, .int 0, .int 0, .int 0, .int (-1), .int (-1), .int 0, .ref z2, .ref z3, .ref z4, .int 0, .ref z5, .ref z6, .ref z7, .ref z8, .ref z9, .int 0, .int 0, .int 0, .int 0, .int 0, .ref z10, .ref z11, .ref z12, .int 0, .ref z13, .ref z14, .ref z15, .int 0, .int 0, .int 0, .int 0, .int (-1), .int 0, .int 0, .ref z16, .ref z17])), (z1, .inl (G.2 1, 180, .inl (f)))] → va_S A s.heap H locs → W p l e (headSpec w_Mo_write ({ frames := 0, cells := 0, slots := 0, locals := 0 })).room s m [.ref h0, .long w].toArray below meth c H locs 0 0 (MQ below (va_Qi (fun (r : Int32) (u : Unit) => r = nb_wr w) (fun u t => True) A) [.ref h0, .long w].toArray s 0 0 A) (F0 m 88 ls []) by
      exact loop 8 0 _ ls _ _ (by decide) hl hP hD hS
    intro j
    induction j with
    | zero =>
      intro k f ls H locs hk hl hP hD hS
      rw [show nI 0 + (-1) = (-1 : Int32) by decide] at hl
      refine lv_iload hx hb d_Mo_write_88 (lv_at hl 0 rfl) ?_
      refine lv_if_lt (tgt := 140) hx hb d_Mo_write_90 rfl (fun _ => ?_) (fun h => absurd (by decide) h)
      refine lv_iconst (v := 1) hx hb d_Mo_write_140 (by decide) ?_
      refine W.widen (k := 0) (n := 0) (Nat.le_of_ble_eq_true rfl) (Nat.le_of_ble_eq_true rfl) ?_
      exact W.zret (v := 1) hx hb hr rfl (fun t ht hW => ⟨⟨1, (), rfl, nb_end hok, trivial⟩, hS.F ht⟩) hS.2.2 d_Mo_write_141
    | succ j ih =>
      intro k f ls H locs hk hl hP hD hS
      rw [pk_m1 j] at hl
      refine lv_iload hx hb d_Mo_write_88 (lv_at hl 0 rfl) ?_
      refine lv_if_lt (tgt := 140) hx hb d_Mo_write_90 rfl (fun h => absurd h (nI_pos (by omega))) (fun _ => ?_)
      refine lv_lload_n hx hb d_Mo_write_93 rfl (lv_at hl 2 rfl) ?_
      refine lv_bipush (v := 8) hx hb d_Mo_write_94 (by decide) ?_
      refine lv_iload hx hb d_Mo_write_96 (lv_at hl 0 rfl) ?_
      refine lv_imul hx hb d_Mo_write_98 ?_
      refine nb_top (nI (8 * j)) (pk_mul 8 j) ?_
      refine lv_lushr (v := (w.toUInt64 >>> ((nI (8 * j)).toInt64.toUInt64 &&& Int64.toUInt64 63)).toInt64) hx hb d_Mo_write_99 rfl ?_
      refine lv_l2i (v := ((w.toUInt64 >>> ((nI (8 * j)).toInt64.toUInt64 &&& Int64.toUInt64 63)).toInt64).toInt32) hx hb d_Mo_write_100 rfl ?_
      refine lv_sipush (v := 255) hx hb d_Mo_write_101 (by decide) ?_
      refine lv_iand hx hb d_Mo_write_104 ?_
      refine nb_top (nb_by w j) rfl ?_
      refine lv_istore (lv' := [(5, .int (nb_by w j)), (4, .int (nI j)), (0, .ref h0), (1, .long w)]) hx hb d_Mo_write_105 hl (by decide) rfl (fun ls hl => ?_)
      refine lv_iload hx hb d_Mo_write_107 (lv_at hl 0 rfl) ?_
      refine lv_if_eq (tgt := 134) hx hb d_Mo_write_109 rfl (fun hc109 => ?_) (fun hc109 => ?_)
      · skip
        refine lv_iinc (k := 1) (v := nI j + (-1)) (lv' := [(4, .int (nI j + (-1))), (5, .int (nb_by w j)), (0, .ref h0), (1, .long w)]) hx hb d_Mo_write_134 hl rfl (by rw [show Int32.ofInt (-1) = (-1 : Int32) by decide]) (by decide) rfl (fun ls hl => ?_)
        refine lv_goto (tgt := 88) hx hb d_Mo_write_137 rfl ?_
        have hl := lv_sub (l' := [(4, .int (nI j + (-1))), (0, .ref h0), (1, .long w)]) hl [0, 2, 3] rfl
        have hP := hP.sub (ws' := [(h0, .inr (7, [.int 0, .int (nI k), .ref z1, .int 0, .int 0, .int 0, .int 0, .int 0, .int 0, .int (-1), .int (-1), .int 0, .ref z2, .ref z3, .ref z4, .int 0, .ref z5, .ref z6, .ref z7, .ref z8, .ref z9, .int 0, .int 0, .int 0, .int 0, .int 0, .ref z10, .ref z11, .ref z12, .int 0, .ref z13, .ref z14, .ref z15, .int 0, .int 0, .int 0, .int 0, .int (-1), .int 0, .int 0, .ref z16, .ref z17])), (z1, .inl (G.2 1, 180, .inl (f)))]) [0, 1] rfl
        have hD := hD.sub (ws' := [(h0, .inr (7, [.int 0, .int (nI k), .ref z1, .int 0, .int 0, .int 0, .int 0, .int 0, .int 0, .int (-1), .int (-1), .int 0, .ref z2, .ref z3, .ref z4, .int 0, .ref z5, .ref z6, .ref z7, .ref z8, .ref z9, .int 0, .int 0, .int 0, .int 0, .int 0, .ref z10, .ref z11, .ref z12, .int 0, .ref z13, .ref z14, .ref z15, .int 0, .int 0, .int 0, .int 0, .int (-1), .int 0, .int 0, .ref z16, .ref z17])), (z1, .inl (G.2 1, 180, .inl (f)))]) [0, 1] (by decide) rfl
        exact ih k _ ls H locs (by omega) hl hP hD hS
      · skip
        refine lv_aload_n hx hb d_Mo_write_112 rfl (lv_at hl 2 rfl) ?_
        refine va_get (D := G.1) (ci := 7) (v := .ref z1) (C := R_Mo) (T := T_Mo) (N := 42) hx hb hg in_Mo hown hK hP 0 rfl rfl 2 (by decide) (hg _ mw_892) (fun _ h9 => h9) rfl d_Mo_write_113 ?_
        refine lv_aload_n hx hb d_Mo_write_116 rfl (lv_at hl 2 rfl) ?_
        refine va_get (D := G.1) (ci := 7) (v := .int (nI k)) (C := R_Mo) (T := T_Mo) (N := 42) hx hb hg in_Mo hown hK hP 0 rfl rfl 1 (by decide) (hg _ mw_891) (fun _ h9 => h9) rfl d_Mo_write_117 ?_
        refine lv_iload hx hb d_Mo_write_120 (lv_at hl 0 rfl) ?_
        refine lv_i2c (v := ((nb_by w j).toUInt32 % 65536).toInt32) hx hb d_Mo_write_122 rfl ?_
        refine va_cast hx hb hK hP hD hS 1 1 rfl rfl (vp_in_nI (by omega) (by decide)) d_Mo_write_123 (fun H locs hP hD hS => ?_)
        have hP : va_P G.1 nn_cls [(h0, .inr (7, [.int 0, .int (nI k), .ref z1, .int 0, .int 0, .int 0, .int 0, .int 0, .int 0, .int (-1), .int (-1), .int 0, .ref z2, .ref z3, .ref z4, .int 0, .ref z5, .ref z6, .ref z7, .ref z8, .ref z9, .int 0, .int 0, .int 0, .int 0, .int 0, .ref z10, .ref z11, .ref z12, .int 0, .ref z13, .ref z14, .ref z15, .int 0, .int 0, .int 0, .int 0, .int (-1), .int 0, .int 0, .ref z16, .ref z17])), (z1, .inl (G.2 1, 180, .inl (upd (f) (nI k).toNatClampNeg (vp_nar .char (((nb_by w j).toUInt32 % 65536).toInt32)))))] H := hP
        have hD : va_D A [(h0, .inr (7, [.int 0, .int (nI k), .ref z1, .int 0, .int 0, .int 0, .int 0, .int 0, .int 0, .int (-1), .int (-1), .int 0, .ref z2, .ref z3, .ref z4, .int 0, .ref z5, .ref z6, .ref z7, .ref z8, .ref z9, .int 0, .int 0, .int 0, .int 0, .int 0, .ref z10, .ref z11, .ref z12, .int 0, .ref z13, .ref z14, .ref z15, .int 0, .int 0, .int 0, .int 0, .int (-1), .int 0, .int 0, .ref z16, .ref z17])), (z1, .inl (G.2 1, 180, .inl (upd (f) (nI k).toNatClampNeg (vp_nar .char (((nb_by w j).toUInt32 % 65536).toInt32)))))] := hD
        refine lv_aload_n hx hb d_Mo_write_124 rfl (lv_at hl 2 rfl) ?_
        refine lv_dup hx hb d_Mo_write_125 rfl ?_
        refine va_get (D := G.1) (ci := 7) (v := .int (nI k)) (C := R_Mo) (T := T_Mo) (N := 42) hx hb hg in_Mo hown hK hP 0 rfl rfl 1 (by decide) (hg _ mw_891) (fun _ h9 => h9) rfl d_Mo_write_126 ?_
        refine lv_iconst (v := 1) hx hb d_Mo_write_129 (by decide) ?_
        refine lv_iadd hx hb d_Mo_write_130 ?_
        refine nb_top (nI (k + 1)) (nI_1 k) ?_
        refine va_put (D := G.1) (ci := 7) (v := .int (nI (k + 1))) (ty := .int) (C := R_Mo) (T := T_Mo) (N := 42) hx hb hg in_Mo t_Mo ok_Mo nm_Mo hown hK hP hD hS 0 rfl rfl 1 (by decide) (hg _ mw_891) (fun _ h9 => h9) rfl (by decide +kernel) rfl rfl (Nat.le_of_ble_eq_true rfl) d_Mo_write_131 (fun H locs hP hD hS => ?_)
        have hP : va_P G.1 nn_cls [(h0, .inr (7, [.int 0, .int (nI (k + 1)), .ref z1, .int 0, .int 0, .int 0, .int 0, .int 0, .int 0, .int (-1), .int (-1), .int 0, .ref z2, .ref z3, .ref z4, .int 0, .ref z5, .ref z6, .ref z7, .ref z8, .ref z9, .int 0, .int 0, .int 0, .int 0, .int 0, .ref z10, .ref z11, .ref z12, .int 0, .ref z13, .ref z14, .ref z15, .int 0, .int 0, .int 0, .int 0, .int (-1), .int 0, .int 0, .ref z16, .ref z17])), (z1, .inl (G.2 1, 180, .inl (upd (f) (nI k).toNatClampNeg (vp_nar .char (((nb_by w j).toUInt32 % 65536).toInt32)))))] H := hP
        have hD : va_D A [(h0, .inr (7, [.int 0, .int (nI (k + 1)), .ref z1, .int 0, .int 0, .int 0, .int 0, .int 0, .int 0, .int (-1), .int (-1), .int 0, .ref z2, .ref z3, .ref z4, .int 0, .ref z5, .ref z6, .ref z7, .ref z8, .ref z9, .int 0, .int 0, .int 0, .int 0, .int 0, .ref z10, .ref z11, .ref z12, .int 0, .ref z13, .ref z14, .ref z15, .int 0, .int 0, .int 0, .int 0, .int (-1), .int 0, .int 0, .ref z16, .ref z17])), (z1, .inl (G.2 1, 180, .inl (upd (f) (nI k).toNatClampNeg (vp_nar .char (((nb_by w j).toUInt32 % 65536).toInt32)))))] := hD
        refine lv_iinc (k := 1) (v := nI j + (-1)) (lv' := [(4, .int (nI j + (-1))), (5, .int (nb_by w j)), (0, .ref h0), (1, .long w)]) hx hb d_Mo_write_134 hl rfl (by rw [show Int32.ofInt (-1) = (-1 : Int32) by decide]) (by decide) rfl (fun ls hl => ?_)
        refine lv_goto (tgt := 88) hx hb d_Mo_write_137 rfl ?_
        have hl := lv_sub (l' := [(4, .int (nI j + (-1))), (0, .ref h0), (1, .long w)]) hl [0, 2, 3] rfl
        have hP := hP.sub (ws' := [(h0, .inr (7, [.int 0, .int (nI (k + 1)), .ref z1, .int 0, .int 0, .int 0, .int 0, .int 0, .int 0, .int (-1), .int (-1), .int 0, .ref z2, .ref z3, .ref z4, .int 0, .ref z5, .ref z6, .ref z7, .ref z8, .ref z9, .int 0, .int 0, .int 0, .int 0, .int 0, .ref z10, .ref z11, .ref z12, .int 0, .ref z13, .ref z14, .ref z15, .int 0, .int 0, .int 0, .int 0, .int (-1), .int 0, .int 0, .ref z16, .ref z17])), (z1, .inl (G.2 1, 180, .inl (upd (f) (nI k).toNatClampNeg (vp_nar .char (((nb_by w j).toUInt32 % 65536).toInt32)))))]) [0, 1] rfl
        have hD := hD.sub (ws' := [(h0, .inr (7, [.int 0, .int (nI (k + 1)), .ref z1, .int 0, .int 0, .int 0, .int 0, .int 0, .int 0, .int (-1), .int (-1), .int 0, .ref z2, .ref z3, .ref z4, .int 0, .ref z5, .ref z6, .ref z7, .ref z8, .ref z9, .int 0, .int 0, .int 0, .int 0, .int 0, .ref z10, .ref z11, .ref z12, .int 0, .ref z13, .ref z14, .ref z15, .int 0, .int 0, .int 0, .int 0, .int (-1), .int 0, .int 0, .ref z16, .ref z17])), (z1, .inl (G.2 1, 180, .inl (upd (f) (nI k).toNatClampNeg (vp_nar .char (((nb_by w j).toUInt32 % 65536).toInt32)))))]) [0, 1] (by decide) rfl
        exact ih (k + 1) _ ls H locs (by omega) hl hP hD hS
  | succ j ih =>
    intro mm ls hm hok hl
    rw [pk_m1 j] at hl
    refine lv_iload hx hb d_Mo_write_11 (lv_at hl 0 rfl) ?_
    refine lv_if_lt (tgt := 70) hx hb d_Mo_write_13 rfl (fun h => absurd h (nI_pos (by omega))) (fun _ => ?_)
    refine lv_lload_n hx hb d_Mo_write_16 rfl (lv_at hl 3 rfl) ?_
    refine lv_bipush (v := 8) hx hb d_Mo_write_17 (by decide) ?_
    refine lv_iload hx hb d_Mo_write_19 (lv_at hl 0 rfl) ?_
    refine lv_imul hx hb d_Mo_write_21 ?_
    refine nb_top (nI (8 * j)) (pk_mul 8 j) ?_
    refine lv_lushr (v := (w.toUInt64 >>> ((nI (8 * j)).toInt64.toUInt64 &&& Int64.toUInt64 63)).toInt64) hx hb d_Mo_write_22 rfl ?_
    refine lv_l2i (v := ((w.toUInt64 >>> ((nI (8 * j)).toInt64.toUInt64 &&& Int64.toUInt64 63)).toInt64).toInt32) hx hb d_Mo_write_23 rfl ?_
    refine lv_sipush (v := 255) hx hb d_Mo_write_24 (by decide) ?_
    refine lv_iand hx hb d_Mo_write_27 ?_
    refine nb_top (nb_by w j) rfl ?_
    refine lv_istore (lv' := [(5, .int (nb_by w j)), (4, .int (nI j)), (3, .int (nI mm)), (0, .ref h0), (1, .long w)]) hx hb d_Mo_write_28 hl (by decide) rfl (fun ls hl => ?_)
    refine lv_iload hx hb d_Mo_write_30 (lv_at hl 0 rfl) ?_
    refine lv_if_eq (tgt := 51) hx hb d_Mo_write_32 rfl (fun hc32 => ?_) (fun hc32 => ?_)
    · skip
      refine lv_iload hx hb d_Mo_write_51 (lv_at hl 0 rfl) ?_
      refine lv_if_eq (tgt := 62) hx hb d_Mo_write_53 rfl (fun _ => ?_) (fun h => absurd (hc32) h)
      refine lv_iload_n hx hb d_Mo_write_62 rfl (lv_at hl 2 rfl) ?_
      refine lv_istore_n (lv' := [(3, .int (nI mm)), (5, .int (nb_by w j)), (4, .int (nI j)), (0, .ref h0), (1, .long w)]) hx hb d_Mo_write_63 rfl hl (by decide) rfl (fun ls hl => ?_)
      refine lv_iinc (k := 2) (v := nI j + (-1)) (lv' := [(4, .int (nI j + (-1))), (3, .int (nI mm)), (5, .int (nb_by w j)), (0, .ref h0), (1, .long w)]) hx hb d_Mo_write_64 hl rfl (by rw [show Int32.ofInt (-1) = (-1 : Int32) by decide]) (by decide) rfl (fun ls hl => ?_)
      refine lv_goto (tgt := 11) hx hb d_Mo_write_67 rfl ?_
      have hl := lv_sub (l' := [(4, .int (nI j + (-1))), (3, .int (nI mm)), (0, .ref h0), (1, .long w)]) hl [0, 1, 3, 4] rfl
      exact ih mm ls (by omega) (nb_good hok (Or.inl hc32)) hl
    · skip
      refine lv_iload hx hb d_Mo_write_35 (lv_at hl 0 rfl) ?_
      refine lv_bipush (v := 32) hx hb d_Mo_write_37 (by decide) ?_
      refine lv_icmp_lt (tgt := 49) hx hb d_Mo_write_39 rfl (fun hc39 => ?_) (fun hc39 => ?_)
      · skip
        refine lv_iconst (v := 0) hx hb d_Mo_write_49 (by decide) ?_
        refine W.widen (k := 0) (n := 0) (Nat.le_of_ble_eq_true rfl) (Nat.le_of_ble_eq_true rfl) ?_
        exact W.zret (v := 0) hx hb hr rfl (fun t ht hW => ⟨⟨0, (), rfl, nb_bad hok hc32 (Or.inl hc39), trivial⟩, hS.F ht⟩) hS.2.2 d_Mo_write_50
      · skip
        refine lv_iload hx hb d_Mo_write_42 (lv_at hl 0 rfl) ?_
        refine lv_bipush (v := 126) hx hb d_Mo_write_44 (by decide) ?_
        refine lv_icmp_le (tgt := 51) hx hb d_Mo_write_46 rfl (fun hc46 => ?_) (fun hc46 => ?_)
        · skip
          refine lv_iload hx hb d_Mo_write_51 (lv_at hl 0 rfl) ?_
          refine lv_if_eq (tgt := 62) hx hb d_Mo_write_53 rfl (fun h => absurd h (hc32)) (fun _ => ?_)
          refine lv_iload_n hx hb d_Mo_write_56 rfl (lv_at hl 2 rfl) ?_
          refine lv_iconst (v := 1) hx hb d_Mo_write_57 (by decide) ?_
          refine lv_iadd hx hb d_Mo_write_58 ?_
          refine nb_top (nI (mm + 1)) (nI_1 mm) ?_
          refine lv_goto (tgt := 63) hx hb d_Mo_write_59 rfl ?_
          refine lv_istore_n (lv' := [(3, .int (nI (mm + 1))), (5, .int (nb_by w j)), (4, .int (nI j)), (0, .ref h0), (1, .long w)]) hx hb d_Mo_write_63 rfl hl (by decide) rfl (fun ls hl => ?_)
          refine lv_iinc (k := 2) (v := nI j + (-1)) (lv' := [(4, .int (nI j + (-1))), (3, .int (nI (mm + 1))), (5, .int (nb_by w j)), (0, .ref h0), (1, .long w)]) hx hb d_Mo_write_64 hl rfl (by rw [show Int32.ofInt (-1) = (-1 : Int32) by decide]) (by decide) rfl (fun ls hl => ?_)
          refine lv_goto (tgt := 11) hx hb d_Mo_write_67 rfl ?_
          have hl := lv_sub (l' := [(4, .int (nI j + (-1))), (3, .int (nI (mm + 1))), (0, .ref h0), (1, .long w)]) hl [0, 1, 3, 4] rfl
          exact ih (mm + 1) ls (by omega) (nb_good hok (Or.inr ⟨hc39, hc46⟩)) hl
        · skip
          refine lv_iconst (v := 0) hx hb d_Mo_write_49 (by decide) ?_
          refine W.widen (k := 0) (n := 0) (Nat.le_of_ble_eq_true rfl) (Nat.le_of_ble_eq_true rfl) ?_
          exact W.zret (v := 0) hx hb hr rfl (fun t ht hW => ⟨⟨0, (), rfl, nb_bad hok hc32 (Or.inr hc46), trivial⟩, hS.F ht⟩) hS.2.2 d_Mo_write_50
