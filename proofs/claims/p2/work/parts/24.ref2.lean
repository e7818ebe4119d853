/-! contracts (by wip/p1/gen.py) -/
theorem mw_54 : (.selects R_Mo y_Mo_declare y_Mo_declare : Cond) ∈ nn_gw := nn_at 54 (by decide +kernel) (by decide +kernel)
theorem mw_57 : (.selects R_Mo y_Mo_expect y_Mo_expect : Cond) ∈ nn_gw := nn_at 57 (by decide +kernel) (by decide +kernel)
theorem mw_912 : (.fieldLink R_Mo 142 R_Mo "cellsOfBlock" "I" : Cond) ∈ nn_gw := nn_at 912 (by decide +kernel) (by decide +kernel)
theorem mw_1069 : (.methodLink R_Mo 145 y_Mo_declare : Cond) ∈ nn_gw := nn_at 1069 (by decide +kernel) (by decide +kernel)
theorem mw_1071 : (.instanceMethod y_Mo_declare : Cond) ∈ nn_gw := nn_at 1071 (by decide +kernel) (by decide +kernel)
set_option maxRecDepth 100000 in
theorem mw_1072 : (.code y_Mo_declare b_Mo_declare 5 none : Cond) ∈ nn_gw := nn_at 1072 (by rfl) (by decide +kernel)
theorem mw_1081 : (.methodLink R_Mo 149 y_Mo_expect : Cond) ∈ nn_gw := nn_at 1081 (by decide +kernel) (by decide +kernel)
theorem mw_1083 : (.instanceMethod y_Mo_expect : Cond) ∈ nn_gw := nn_at 1083 (by decide +kernel) (by decide +kernel)
set_option maxRecDepth 100000 in
theorem mw_1084 : (.code y_Mo_expect b_Mo_expect 2 none : Cond) ∈ nn_gw := nn_at 1084 (by rfl) (by decide +kernel)
theorem d_Mo_variables_0 : decode b_Mo_variables 0 = .ok (.aload_n 0, 1) := by decide +kernel
theorem d_Mo_variables_1 : decode b_Mo_variables 1 = .ok (.getfield 88, 3) := by decide +kernel
theorem d_Mo_variables_4 : decode b_Mo_variables 4 = .ok (.iconst 4, 1) := by decide +kernel
theorem d_Mo_variables_5 : decode b_Mo_variables 5 = .ok (.if_icmp .eq 4, 3) := by decide +kernel
theorem d_Mo_variables_8 : decode b_Mo_variables 8 = .ok (.return_, 1) := by decide +kernel
theorem d_Mo_variables_9 : decode b_Mo_variables 9 = .ok (.aload_n 0, 1) := by decide +kernel
theorem d_Mo_variables_10 : decode b_Mo_variables 10 = .ok (.invokevirtual 117, 3) := by decide +kernel
theorem d_Mo_variables_13 : decode b_Mo_variables 13 = .ok (.iconst 1, 1) := by decide +kernel
theorem d_Mo_variables_14 : decode b_Mo_variables 14 = .ok (.istore_n 1, 1) := by decide +kernel
theorem d_Mo_variables_15 : decode b_Mo_variables 15 = .ok (.iconst 0, 1) := by decide +kernel
theorem d_Mo_variables_16 : decode b_Mo_variables 16 = .ok (.istore_n 2, 1) := by decide +kernel
theorem d_Mo_variables_17 : decode b_Mo_variables 17 = .ok (.iload_n 2, 1) := by decide +kernel
theorem d_Mo_variables_18 : decode b_Mo_variables 18 = .ok (.sipush 180, 3) := by decide +kernel
theorem d_Mo_variables_21 : decode b_Mo_variables 21 = .ok (.if_icmp .ge 169, 3) := by decide +kernel
theorem d_Mo_variables_24 : decode b_Mo_variables 24 = .ok (.iload_n 1, 1) := by decide +kernel
theorem d_Mo_variables_25 : decode b_Mo_variables 25 = .ok (.ifCond .eq 165, 3) := by decide +kernel
theorem d_Mo_variables_28 : decode b_Mo_variables 28 = .ok (.aload_n 0, 1) := by decide +kernel
theorem d_Mo_variables_29 : decode b_Mo_variables 29 = .ok (.getfield 111, 3) := by decide +kernel
theorem d_Mo_variables_32 : decode b_Mo_variables 32 = .ok (.ifCond .ne 158, 3) := by decide +kernel
theorem d_Mo_variables_35 : decode b_Mo_variables 35 = .ok (.aload_n 0, 1) := by decide +kernel
theorem d_Mo_variables_36 : decode b_Mo_variables 36 = .ok (.iconst 0, 1) := by decide +kernel
theorem d_Mo_variables_37 : decode b_Mo_variables 37 = .ok (.aload_n 0, 1) := by decide +kernel
theorem d_Mo_variables_38 : decode b_Mo_variables 38 = .ok (.getfield 142, 3) := by decide +kernel
theorem d_Mo_variables_41 : decode b_Mo_variables 41 = .ok (.iconst 0, 1) := by decide +kernel
theorem d_Mo_variables_42 : decode b_Mo_variables 42 = .ok (.invokevirtual 145, 3) := by decide +kernel
theorem d_Mo_variables_45 : decode b_Mo_variables 45 = .ok (.iconst 1, 1) := by decide +kernel
theorem d_Mo_variables_46 : decode b_Mo_variables 46 = .ok (.istore_n 3, 1) := by decide +kernel
theorem d_Mo_variables_47 : decode b_Mo_variables 47 = .ok (.aload_n 0, 1) := by decide +kernel
theorem d_Mo_variables_48 : decode b_Mo_variables 48 = .ok (.getfield 111, 3) := by decide +kernel
theorem d_Mo_variables_51 : decode b_Mo_variables 51 = .ok (.ifCond .ne 96, 3) := by decide +kernel
theorem d_Mo_variables_54 : decode b_Mo_variables 54 = .ok (.aload_n 0, 1) := by decide +kernel
theorem d_Mo_variables_55 : decode b_Mo_variables 55 = .ok (.getfield 88, 3) := by decide +kernel
theorem d_Mo_variables_58 : decode b_Mo_variables 58 = .ok (.bipush 6, 2) := by decide +kernel
theorem d_Mo_variables_60 : decode b_Mo_variables 60 = .ok (.if_icmp .ne 87, 3) := by decide +kernel
theorem d_Mo_variables_63 : decode b_Mo_variables 63 = .ok (.aload_n 0, 1) := by decide +kernel
theorem d_Mo_variables_64 : decode b_Mo_variables 64 = .ok (.invokevirtual 117, 3) := by decide +kernel
theorem d_Mo_variables_67 : decode b_Mo_variables 67 = .ok (.aload_n 0, 1) := by decide +kernel
theorem d_Mo_variables_68 : decode b_Mo_variables 68 = .ok (.getfield 88, 3) := by decide +kernel
theorem d_Mo_variables_71 : decode b_Mo_variables 71 = .ok (.iconst 3, 1) := by decide +kernel
theorem d_Mo_variables_72 : decode b_Mo_variables 72 = .ok (.if_icmp .eq 15, 3) := by decide +kernel
theorem d_Mo_variables_75 : decode b_Mo_variables 75 = .ok (.aload_n 0, 1) := by decide +kernel
theorem d_Mo_variables_76 : decode b_Mo_variables 76 = .ok (.iconst 1, 1) := by decide +kernel
theorem d_Mo_variables_77 : decode b_Mo_variables 77 = .ok (.aload_n 0, 1) := by decide +kernel
theorem d_Mo_variables_78 : decode b_Mo_variables 78 = .ok (.getfield 78, 3) := by decide +kernel
theorem d_Mo_variables_81 : decode b_Mo_variables 81 = .ok (.invokevirtual 120, 3) := by decide +kernel
theorem d_Mo_variables_84 : decode b_Mo_variables 84 = .ok (.goto 30, 3) := by decide +kernel
theorem d_Mo_variables_87 : decode b_Mo_variables 87 = .ok (.aload_n 0, 1) := by decide +kernel
theorem d_Mo_variables_88 : decode b_Mo_variables 88 = .ok (.getfield 85, 3) := by decide +kernel
theorem d_Mo_variables_91 : decode b_Mo_variables 91 = .ok (.iconst 1, 1) := by decide +kernel
theorem d_Mo_variables_92 : decode b_Mo_variables 92 = .ok (.if_icmp .lt 12, 3) := by decide +kernel
theorem d_Mo_variables_95 : decode b_Mo_variables 95 = .ok (.aload_n 0, 1) := by decide +kernel
theorem d_Mo_variables_96 : decode b_Mo_variables 96 = .ok (.getfield 85, 3) := by decide +kernel
theorem d_Mo_variables_99 : decode b_Mo_variables 99 = .ok (.bipush 30, 2) := by decide +kernel
theorem d_Mo_variables_101 : decode b_Mo_variables 101 = .ok (.if_icmp .le 13, 3) := by decide +kernel
theorem d_Mo_variables_104 : decode b_Mo_variables 104 = .ok (.aload_n 0, 1) := by decide +kernel
theorem d_Mo_variables_105 : decode b_Mo_variables 105 = .ok (.bipush 6, 2) := by decide +kernel
theorem d_Mo_variables_107 : decode b_Mo_variables 107 = .ok (.aload_n 0, 1) := by decide +kernel
theorem d_Mo_variables_108 : decode b_Mo_variables 108 = .ok (.getfield 78, 3) := by decide +kernel
theorem d_Mo_variables_111 : decode b_Mo_variables 111 = .ok (.invokevirtual 120, 3) := by decide +kernel
theorem d_Mo_variables_114 : decode b_Mo_variables 114 = .ok (.aload_n 0, 1) := by decide +kernel
theorem d_Mo_variables_115 : decode b_Mo_variables 115 = .ok (.getfield 85, 3) := by decide +kernel
theorem d_Mo_variables_118 : decode b_Mo_variables 118 = .ok (.istore_n 3, 1) := by decide +kernel
theorem d_Mo_variables_119 : decode b_Mo_variables 119 = .ok (.aload_n 0, 1) := by decide +kernel
theorem d_Mo_variables_120 : decode b_Mo_variables 120 = .ok (.getfield 33, 3) := by decide +kernel
theorem d_Mo_variables_123 : decode b_Mo_variables 123 = .ok (.aload_n 0, 1) := by decide +kernel
theorem d_Mo_variables_124 : decode b_Mo_variables 124 = .ok (.getfield 124, 3) := by decide +kernel
theorem d_Mo_variables_127 : decode b_Mo_variables 127 = .ok (.iconst 1, 1) := by decide +kernel
theorem d_Mo_variables_128 : decode b_Mo_variables 128 = .ok (.isub, 1) := by decide +kernel
theorem d_Mo_variables_129 : decode b_Mo_variables 129 = .ok (.iconst 1, 1) := by decide +kernel
theorem d_Mo_variables_130 : decode b_Mo_variables 130 = .ok (.iastore, 1) := by decide +kernel
theorem d_Mo_variables_131 : decode b_Mo_variables 131 = .ok (.aload_n 0, 1) := by decide +kernel
theorem d_Mo_variables_132 : decode b_Mo_variables 132 = .ok (.getfield 42, 3) := by decide +kernel
theorem d_Mo_variables_135 : decode b_Mo_variables 135 = .ok (.aload_n 0, 1) := by decide +kernel
theorem d_Mo_variables_136 : decode b_Mo_variables 136 = .ok (.getfield 124, 3) := by decide +kernel
theorem d_Mo_variables_139 : decode b_Mo_variables 139 = .ok (.iconst 1, 1) := by decide +kernel
theorem d_Mo_variables_140 : decode b_Mo_variables 140 = .ok (.isub, 1) := by decide +kernel
theorem d_Mo_variables_141 : decode b_Mo_variables 141 = .ok (.iload_n 3, 1) := by decide +kernel
theorem d_Mo_variables_142 : decode b_Mo_variables 142 = .ok (.iastore, 1) := by decide +kernel
theorem d_Mo_variables_143 : decode b_Mo_variables 143 = .ok (.aload_n 0, 1) := by decide +kernel
theorem d_Mo_variables_144 : decode b_Mo_variables 144 = .ok (.invokevirtual 117, 3) := by decide +kernel
theorem d_Mo_variables_147 : decode b_Mo_variables 147 = .ok (.aload_n 0, 1) := by decide +kernel
theorem d_Mo_variables_148 : decode b_Mo_variables 148 = .ok (.dup, 1) := by decide +kernel
theorem d_Mo_variables_149 : decode b_Mo_variables 149 = .ok (.getfield 142, 3) := by decide +kernel
theorem d_Mo_variables_152 : decode b_Mo_variables 152 = .ok (.iload_n 3, 1) := by decide +kernel
theorem d_Mo_variables_153 : decode b_Mo_variables 153 = .ok (.iadd, 1) := by decide +kernel
theorem d_Mo_variables_154 : decode b_Mo_variables 154 = .ok (.putfield 142, 3) := by decide +kernel
theorem d_Mo_variables_157 : decode b_Mo_variables 157 = .ok (.aload_n 0, 1) := by decide +kernel
theorem d_Mo_variables_158 : decode b_Mo_variables 158 = .ok (.getfield 111, 3) := by decide +kernel
theorem d_Mo_variables_161 : decode b_Mo_variables 161 = .ok (.ifCond .ne 9, 3) := by decide +kernel
theorem d_Mo_variables_164 : decode b_Mo_variables 164 = .ok (.aload_n 0, 1) := by decide +kernel
theorem d_Mo_variables_165 : decode b_Mo_variables 165 = .ok (.bipush 59, 2) := by decide +kernel
theorem d_Mo_variables_167 : decode b_Mo_variables 167 = .ok (.invokevirtual 149, 3) := by decide +kernel
theorem d_Mo_variables_170 : decode b_Mo_variables 170 = .ok (.aload_n 0, 1) := by decide +kernel
theorem d_Mo_variables_171 : decode b_Mo_variables 171 = .ok (.getfield 88, 3) := by decide +kernel
theorem d_Mo_variables_174 : decode b_Mo_variables 174 = .ok (.iconst 2, 1) := by decide +kernel
theorem d_Mo_variables_175 : decode b_Mo_variables 175 = .ok (.if_icmp .ne 7, 3) := by decide +kernel
theorem d_Mo_variables_178 : decode b_Mo_variables 178 = .ok (.iconst 1, 1) := by decide +kernel
theorem d_Mo_variables_179 : decode b_Mo_variables 179 = .ok (.goto 4, 3) := by decide +kernel
theorem d_Mo_variables_182 : decode b_Mo_variables 182 = .ok (.iconst 0, 1) := by decide +kernel
theorem d_Mo_variables_183 : decode b_Mo_variables 183 = .ok (.istore_n 1, 1) := by decide +kernel
theorem d_Mo_variables_184 : decode b_Mo_variables 184 = .ok (.iinc 2 1, 3) := by decide +kernel
theorem d_Mo_variables_187 : decode b_Mo_variables 187 = .ok (.goto (-170), 3) := by decide +kernel
theorem d_Mo_variables_190 : decode b_Mo_variables 190 = .ok (.return_, 1) := by decide +kernel

def k_variables_183 (kt : nM → Int32 → Int32 → nM) (x : nM) (v2 : Int32) (w0 : Int32) : nM := kt x w0 (v2 + 1)
def p_variables_183 (kp : nM → Int32 → Int32 → Prop) (x : nM) (v2 : Int32) (w0 : Int32) : Prop := kp x w0 (v2 + 1)
def k_variables_170 (kt : nM → Int32 → Int32 → nM) (x : nM) (v2 : Int32) : nM := (if x.1 3 = 2 then k_variables_183 kt x v2 1 else k_variables_183 kt x v2 0)
def p_variables_170 (kp : nM → Int32 → Int32 → Prop) (x : nM) (v2 : Int32) : Prop := ((x.1 3 = 2 → p_variables_183 kp x v2 1) ∧ (¬ (x.1 3 = 2) → p_variables_183 kp x v2 0))
def k_variables_147 (kt : nM → Int32 → Int32 → nM) (x : nM) (v2 : Int32) (v3 : Int32) : nM := (if x.1 7 = 0 then k_variables_170 kt (m_expect (nm_f x 22 ((x.1 22) + v3)) 59) v2 else k_variables_170 kt (nm_f x 22 ((x.1 22) + v3)) v2)
def p_variables_147 (kp : nM → Int32 → Int32 → Prop) (x : nM) (v2 : Int32) (v3 : Int32) : Prop := ((x.1 7 = 0 → o_expect (nm_f x 22 ((x.1 22) + v3)) 59 ∧ p_variables_170 kp (m_expect (nm_f x 22 ((x.1 22) + v3)) 59) v2) ∧ (¬ (x.1 7 = 0) → p_variables_170 kp (nm_f x 22 ((x.1 22) + v3)) v2))
def k_variables_114 (kt : nM → Int32 → Int32 → nM) (x : nM) (v2 : Int32) : nM := k_variables_147 kt (m_goOn (nm_a (nm_a x 17 ((x.1 15) - 1) 1) 20 ((x.1 15) - 1) (x.1 5))) v2 (x.1 5)
def p_variables_114 (kp : nM → Int32 → Int32 → Prop) (x : nM) (v2 : Int32) : Prop := vp_in ((x.1 15) - 1) 100 ∧ vp_in ((x.1 15) - 1) 100 ∧ o_goOn (nm_a (nm_a x 17 ((x.1 15) - 1) 1) 20 ((x.1 15) - 1) (x.1 5)) ∧ p_variables_147 kp (m_goOn (nm_a (nm_a x 17 ((x.1 15) - 1) 1) 20 ((x.1 15) - 1) (x.1 5))) v2 (x.1 5)
def k_variables_104 (kt : nM → Int32 → Int32 → nM) (x : nM) (v2 : Int32) : nM := k_variables_114 kt (m_fail x 6 (x.1 4)) v2
def p_variables_104 (kp : nM → Int32 → Int32 → Prop) (x : nM) (v2 : Int32) : Prop := p_variables_114 kp (m_fail x 6 (x.1 4)) v2
def k_variables_17 : Nat → nM → Int32 → Int32 → nM
  | 0, x, v1, v2 => x
  | n + 1, x, v1, v2 => (if 180 ≤ v2 then x else (if v1 = 0 then x else (if x.1 7 = 0 then (if (m_declare x 0 (x.1 22) 0).1 7 = 0 then (if (m_declare x 0 (x.1 22) 0).1 3 = 6 then (if (m_goOn (m_declare x 0 (x.1 22) 0)).1 3 = 3 then (if (m_goOn (m_declare x 0 (x.1 22) 0)).1 5 < 1 then k_variables_104 (k_variables_17 n) (m_goOn (m_declare x 0 (x.1 22) 0)) v2 else (if (m_goOn (m_declare x 0 (x.1 22) 0)).1 5 ≤ 30 then k_variables_114 (k_variables_17 n) (m_goOn (m_declare x 0 (x.1 22) 0)) v2 else k_variables_104 (k_variables_17 n) (m_goOn (m_declare x 0 (x.1 22) 0)) v2)) else k_variables_114 (k_variables_17 n) (m_fail (m_goOn (m_declare x 0 (x.1 22) 0)) 1 ((m_goOn (m_declare x 0 (x.1 22) 0)).1 4)) v2) else k_variables_147 (k_variables_17 n) (m_declare x 0 (x.1 22) 0) v2 1) else k_variables_147 (k_variables_17 n) (m_declare x 0 (x.1 22) 0) v2 1) else x)))
def p_variables_17 : Nat → nM → Int32 → Int32 → Prop
  | 0, _, _, _ => False
  | n + 1, x, v1, v2 => ((180 ≤ v2 → True) ∧ (¬ (180 ≤ v2) → ((v1 = 0 → True) ∧ (¬ (v1 = 0) → ((x.1 7 = 0 → o_declare x 0 (x.1 22) 0 ∧ (((m_declare x 0 (x.1 22) 0).1 7 = 0 → (((m_declare x 0 (x.1 22) 0).1 3 = 6 → o_goOn (m_declare x 0 (x.1 22) 0) ∧ (((m_goOn (m_declare x 0 (x.1 22) 0)).1 3 = 3 → (((m_goOn (m_declare x 0 (x.1 22) 0)).1 5 < 1 → p_variables_104 (p_variables_17 n) (m_goOn (m_declare x 0 (x.1 22) 0)) v2) ∧ (¬ ((m_goOn (m_declare x 0 (x.1 22) 0)).1 5 < 1) → (((m_goOn (m_declare x 0 (x.1 22) 0)).1 5 ≤ 30 → p_variables_114 (p_variables_17 n) (m_goOn (m_declare x 0 (x.1 22) 0)) v2) ∧ (¬ ((m_goOn (m_declare x 0 (x.1 22) 0)).1 5 ≤ 30) → p_variables_104 (p_variables_17 n) (m_goOn (m_declare x 0 (x.1 22) 0)) v2))))) ∧ (¬ ((m_goOn (m_declare x 0 (x.1 22) 0)).1 3 = 3) → p_variables_114 (p_variables_17 n) (m_fail (m_goOn (m_declare x 0 (x.1 22) 0)) 1 ((m_goOn (m_declare x 0 (x.1 22) 0)).1 4)) v2))) ∧ (¬ ((m_declare x 0 (x.1 22) 0).1 3 = 6) → p_variables_147 (p_variables_17 n) (m_declare x 0 (x.1 22) 0) v2 1))) ∧ (¬ ((m_declare x 0 (x.1 22) 0).1 7 = 0) → p_variables_147 (p_variables_17 n) (m_declare x 0 (x.1 22) 0) v2 1))) ∧ (¬ (x.1 7 = 0) → True))))))
def m_variables (x : nM)  : nM := (if x.1 3 = 4 then k_variables_17 300 (m_goOn x) 1 0 else x)
def o_variables (x : nM)  : Prop := ((x.1 3 = 4 → o_goOn x ∧ p_variables_17 300 (m_goOn x) 1 0) ∧ (¬ (x.1 3 = 4) → True))
set_option maxHeartbeats 4000000 in
set_option maxRecDepth 100000 in
theorem t_variables (l : Launch) (G : nn_G) (sz : Nat) (mo : Nat) (ad : Nat → Nat) (x : nM)  (hk : o_variables x) : Met l y_Mo_variables w_Mo_variables ({ frames := 4, cells := 0, slots := 0, locals := 88 }) (nn_P G [.ref mo] (nm_W G mo ad x) sz) (nm_Qv G mo ad (m_variables x) (va_A (nm_W G mo ad x) sz)) 0 0 (va_A (nm_W G mo ad x) sz) := by
  refine Met.ofW (cc := b_Mo_variables) (maxL := 4) (ret := none) (by decide) rfl ?_
  intro p e s m args below meth c s₁ B hml hv
  obtain ⟨rfl, hsz, hP, hK, hD0, hN⟩ := hv
  have hx := B.exec
  have hb := B.bytes
  have hr := B.returns
  have hts := atoms_spec (ws := w_Mo_variables) B.pre
  have hg : ∀ w ∈ nn_gw, w.before _ s = true := fun w h => hts w (List.mem_cons_of_mem _ h)
  have hown : s.vm.findClass R_Mo = some m.cls := findClass_of_methodNamed B.named
  subst hsz
  have hD := hD0.self (sz := s.heap.size)
  generalize hAe : va_A (nm_W G mo ad x) s.heap.size = A at hD ⊢
  have hA : ∀ q : Nat, s.heap.size ≤ q → A q := fun q h => by rw [← hAe]; exact Or.inr h
  clear hAe
  have hS : va_S A s.heap s.heap [] := va_S.rf
  have hP : va_P G.1 nn_cls (nm_W G mo ad x) s.heap := hP
  have hl := lv_entry ([.ref mo]) (n := 4) (Nat.le_of_ble_eq_true rfl)
  rw [lg_entry_eq]
  generalize (lg_sl ([.ref mo]) ++ List.replicate (4 - (lg_sl ([.ref mo])).length) Slot.unset).toArray = ls at hl ⊢
  have hl : lv_has ls 4 [(0, .ref mo)] := hl
  have J183 : ∀ (kt : nM → Int32 → Int32 → nM) (kp : nM → Int32 → Int32 → Prop), (∀ (x : nM) (v1 : Int32) (v2 : Int32) (ls : Array Slot) (H : Heap) (locs : List Loc), kp x v1 v2 → lv_has ls 4 [(0, .ref mo), (1, .int v1), (2, .int v2)] → va_P G.1 nn_cls (nm_W G mo ad x) H → va_D A (nm_W G mo ad x) → va_S A s.heap H locs → W p l e (headSpec w_Mo_variables ({ frames := 4, cells := 0, slots := 0, locals := 88 })).room s m [.ref mo].toArray below meth c H locs 0 0 (MQ below (nm_Qv G mo ad (kt x v1 v2) A) [.ref mo].toArray s 0 0 A) (F0 m 17 ls [])) → ∀ (x : nM) (v2 : Int32) (w0 : Int32) (ls : Array Slot) (H : Heap) (locs : List Loc), p_variables_183 kp x v2 w0 → lv_has ls 4 [(0, .ref mo), (2, .int v2)] → va_P G.1 nn_cls (nm_W G mo ad x) H → va_D A (nm_W G mo ad x) → va_S A s.heap H locs → W p l e (headSpec w_Mo_variables ({ frames := 4, cells := 0, slots := 0, locals := 88 })).room s m [.ref mo].toArray below meth c H locs 0 0 (MQ below (nm_Qv G mo ad (k_variables_183 kt x v2 w0) A) [.ref mo].toArray s 0 0 A) (F0 m 183 ls [.int w0]) := by
    intro kt kp ihk x v2 w0 ls H locs hk hl hP hD hS
    unfold p_variables_183 at hk
    refine lv_istore_n (lv' := [(1, .int w0), (0, .ref mo), (2, .int v2)]) hx hb d_Mo_variables_183 rfl hl (by decide) rfl (fun ls hl => ?_)
    refine lv_iinc (k := 2) (v := v2 + 1) (lv' := [(2, .int (v2 + 1)), (1, .int w0), (0, .ref mo)]) hx hb d_Mo_variables_184 hl rfl (rfl) (by decide) rfl (fun ls hl => ?_)
    refine lv_goto (tgt := 17) hx hb d_Mo_variables_187 rfl ?_
    have hl := lv_sub (l' := [(0, .ref mo), (1, .int w0), (2, .int (v2 + 1))]) hl [2, 1, 0] rfl
    have hR : k_variables_183 kt x v2 w0 = kt x w0 (v2 + 1) := by rw [k_variables_183]
    exact nm_W1 hR (ihk x w0 (v2 + 1) ls _ _ hk hl hP hD hS)
  have J170 : ∀ (kt : nM → Int32 → Int32 → nM) (kp : nM → Int32 → Int32 → Prop), (∀ (x : nM) (v1 : Int32) (v2 : Int32) (ls : Array Slot) (H : Heap) (locs : List Loc), kp x v1 v2 → lv_has ls 4 [(0, .ref mo), (1, .int v1), (2, .int v2)] → va_P G.1 nn_cls (nm_W G mo ad x) H → va_D A (nm_W G mo ad x) → va_S A s.heap H locs → W p l e (headSpec w_Mo_variables ({ frames := 4, cells := 0, slots := 0, locals := 88 })).room s m [.ref mo].toArray below meth c H locs 0 0 (MQ below (nm_Qv G mo ad (kt x v1 v2) A) [.ref mo].toArray s 0 0 A) (F0 m 17 ls [])) → ∀ (x : nM) (v2 : Int32) (ls : Array Slot) (H : Heap) (locs : List Loc), p_variables_170 kp x v2 → lv_has ls 4 [(0, .ref mo), (2, .int v2)] → va_P G.1 nn_cls (nm_W G mo ad x) H → va_D A (nm_W G mo ad x) → va_S A s.heap H locs → W p l e (headSpec w_Mo_variables ({ frames := 4, cells := 0, slots := 0, locals := 88 })).room s m [.ref mo].toArray below meth c H locs 0 0 (MQ below (nm_Qv G mo ad (k_variables_170 kt x v2) A) [.ref mo].toArray s 0 0 A) (F0 m 170 ls []) := by
    intro kt kp ihk x v2 ls H locs hk hl hP hD hS
    unfold p_variables_170 at hk
    refine lv_aload_n hx hb d_Mo_variables_170 rfl (lv_at hl 0 rfl) ?_
    refine nm_get hx hb hg hown hK hP 3 (by decide) (by decide) (hg _ mw_893) d_Mo_variables_171 ?_
    refine lv_iconst (v := 2) hx hb d_Mo_variables_174 (by decide) ?_
    refine lv_icmp_ne (tgt := 182) hx hb d_Mo_variables_175 rfl (fun hc175 => ?_) (fun hc175 => ?_)
    · skip
      have hk := hk.2 hc175
      refine lv_iconst (v := 0) hx hb d_Mo_variables_182 (by decide) ?_
      have hl := lv_sub (l' := [(0, .ref mo), (2, .int v2)]) hl [0, 1] rfl
      have hR : k_variables_170 kt x v2 = k_variables_183 kt x v2 0 := by rw [k_variables_170]; rw [if_neg hc175]
      exact nm_W1 hR (J183 kt kp ihk x v2 0 ls _ _ hk hl hP hD hS)
    · skip
      have hk := hk.1 hc175
      refine lv_iconst (v := 1) hx hb d_Mo_variables_178 (by decide) ?_
      refine lv_goto (tgt := 183) hx hb d_Mo_variables_179 rfl ?_
      have hl := lv_sub (l' := [(0, .ref mo), (2, .int v2)]) hl [0, 1] rfl
      have hR : k_variables_170 kt x v2 = k_variables_183 kt x v2 1 := by rw [k_variables_170]; rw [if_pos hc175]
      exact nm_W1 hR (J183 kt kp ihk x v2 1 ls _ _ hk hl hP hD hS)
  have J147 : ∀ (kt : nM → Int32 → Int32 → nM) (kp : nM → Int32 → Int32 → Prop), (∀ (x : nM) (v1 : Int32) (v2 : Int32) (ls : Array Slot) (H : Heap) (locs : List Loc), kp x v1 v2 → lv_has ls 4 [(0, .ref mo), (1, .int v1), (2, .int v2)] → va_P G.1 nn_cls (nm_W G mo ad x) H → va_D A (nm_W G mo ad x) → va_S A s.heap H locs → W p l e (headSpec w_Mo_variables ({ frames := 4, cells := 0, slots := 0, locals := 88 })).room s m [.ref mo].toArray below meth c H locs 0 0 (MQ below (nm_Qv G mo ad (kt x v1 v2) A) [.ref mo].toArray s 0 0 A) (F0 m 17 ls [])) → ∀ (x : nM) (v2 : Int32) (v3 : Int32) (ls : Array Slot) (H : Heap) (locs : List Loc), p_variables_147 kp x v2 v3 → lv_has ls 4 [(0, .ref mo), (2, .int v2), (3, .int v3)] → va_P G.1 nn_cls (nm_W G mo ad x) H → va_D A (nm_W G mo ad x) → va_S A s.heap H locs → W p l e (headSpec w_Mo_variables ({ frames := 4, cells := 0, slots := 0, locals := 88 })).room s m [.ref mo].toArray below meth c H locs 0 0 (MQ below (nm_Qv G mo ad (k_variables_147 kt x v2 v3) A) [.ref mo].toArray s 0 0 A) (F0 m 147 ls []) := by
    intro kt kp ihk x v2 v3 ls H locs hk hl hP hD hS
    unfold p_variables_147 at hk
    refine lv_aload_n hx hb d_Mo_variables_147 rfl (lv_at hl 0 rfl) ?_
    refine lv_dup hx hb d_Mo_variables_148 rfl ?_
    refine nm_get hx hb hg hown hK hP 22 (by decide) (by decide) (hg _ mw_912) d_Mo_variables_149 ?_
    refine lv_iload_n hx hb d_Mo_variables_152 rfl (lv_at hl 2 rfl) ?_
    refine lv_iadd hx hb d_Mo_variables_153 ?_
    refine nm_put hx hb hg hown hK hP hD hS 22 (by decide) (by decide) (by decide) (hg _ mw_912) d_Mo_variables_154 (fun H locs hP hD hS => ?_)
    refine lv_aload_n hx hb d_Mo_variables_157 rfl (lv_at hl 0 rfl) ?_
    refine nm_get hx hb hg hown hK hP 7 (by decide) (by decide) (hg _ mw_897) d_Mo_variables_158 ?_
    refine nb_top (x.1 7) rfl ?_
    refine lv_if_ne (tgt := 170) hx hb d_Mo_variables_161 rfl (fun hc161 => ?_) (fun hc161 => ?_)
    · skip
      have hk := hk.2 hc161
      have hl := lv_sub (l' := [(0, .ref mo), (2, .int v2)]) hl [0, 1] rfl
      have hR : k_variables_147 kt x v2 v3 = k_variables_170 kt (nm_f x 22 ((x.1 22) + v3)) v2 := by rw [k_variables_147]; rw [if_neg hc161]
      exact nm_W1 hR (J170 kt kp ihk (nm_f x 22 ((x.1 22) + v3)) v2 ls _ _ hk hl hP hD hS)
    · skip
      have hk := hk.1 hc161
      refine lv_aload_n hx hb d_Mo_variables_164 rfl (lv_at hl 0 rfl) ?_
      refine lv_bipush (v := 59) hx hb d_Mo_variables_165 (by decide) ?_
      obtain ⟨hi, hk⟩ := hk
      have hFc := nm_free hD hS hA
      refine va_callv (va_runV (As := [.int 59]) (rest := []) ⟨hx, hb, hml, hown, hts⟩ (t_expect l G _ mo ad (nm_f x 22 ((x.1 22) + v3)) 59 hi) (cwV 1 hts (nn_gV mw_1084 mw_1081 mw_1083 mw_57 mw_94) rfl rfl rfl (by decide +kernel) ⟨Nat.le_of_ble_eq_true rfl, Nat.le_of_ble_eq_true rfl⟩) (nn_preV (va_recv hK hP rfl (q0 := 0) rfl) hP hD hK hN) rfl rfl hl.1 rfl (lv_room (Nat.le_of_ble_eq_true rfl)) d_Mo_variables_167 ⟨Nat.le_of_ble_eq_true rfl, Nat.le_of_ble_eq_true rfl⟩) hS (fun q _ h => hFc q h) hFc (fun u t H locs ht hvm hw hB hz1 hk1 hS => ?_)
      obtain ⟨hP1, hD1⟩ := hB
      rw [ht] at hP1
      have hP := hP1
      have hD := hD1.weaken (fun _ _ _ h => hFc _ h)
      have hl := lv_sub (l' := [(0, .ref mo), (2, .int v2)]) hl [0, 1] rfl
      have hR : k_variables_147 kt x v2 v3 = k_variables_170 kt (m_expect (nm_f x 22 ((x.1 22) + v3)) 59) v2 := by rw [k_variables_147]; rw [if_pos hc161]
      exact nm_W1 hR (J170 kt kp ihk (m_expect (nm_f x 22 ((x.1 22) + v3)) 59) v2 ls _ _ hk hl hP hD hS)
  have J114 : ∀ (kt : nM → Int32 → Int32 → nM) (kp : nM → Int32 → Int32 → Prop), (∀ (x : nM) (v1 : Int32) (v2 : Int32) (ls : Array Slot) (H : Heap) (locs : List Loc), kp x v1 v2 → lv_has ls 4 [(0, .ref mo), (1, .int v1), (2, .int v2)] → va_P G.1 nn_cls (nm_W G mo ad x) H → va_D A (nm_W G mo ad x) → va_S A s.heap H locs → W p l e (headSpec w_Mo_variables ({ frames := 4, cells := 0, slots := 0, locals := 88 })).room s m [.ref mo].toArray below meth c H locs 0 0 (MQ below (nm_Qv G mo ad (kt x v1 v2) A) [.ref mo].toArray s 0 0 A) (F0 m 17 ls [])) → ∀ (x : nM) (v2 : Int32) (ls : Array Slot) (H : Heap) (locs : List Loc), p_variables_114 kp x v2 → lv_has ls 4 [(0, .ref mo), (2, .int v2)] → va_P G.1 nn_cls (nm_W G mo ad x) H → va_D A (nm_W G mo ad x) → va_S A s.heap H locs → W p l e (headSpec w_Mo_variables ({ frames := 4, cells := 0, slots := 0, locals := 88 })).room s m [.ref mo].toArray below meth c H locs 0 0 (MQ below (nm_Qv G mo ad (k_variables_114 kt x v2) A) [.ref mo].toArray s 0 0 A) (F0 m 114 ls []) := by
    intro kt kp ihk x v2 ls H locs hk hl hP hD hS
    unfold p_variables_114 at hk
    refine lv_aload_n hx hb d_Mo_variables_114 rfl (lv_at hl 0 rfl) ?_
    refine nm_get hx hb hg hown hK hP 5 (by decide) (by decide) (hg _ mw_895) d_Mo_variables_115 ?_
    refine lv_istore_n (lv' := [(3, .int (x.1 5)), (0, .ref mo), (2, .int v2)]) hx hb d_Mo_variables_118 rfl hl (by decide) rfl (fun ls hl => ?_)
    refine lv_aload_n hx hb d_Mo_variables_119 rfl (lv_at hl 1 rfl) ?_
    refine nm_getA hx hb hg hown hK hP 17 (by decide) (by decide) (hg _ mw_907) d_Mo_variables_120 ?_
    refine lv_aload_n hx hb d_Mo_variables_123 rfl (lv_at hl 1 rfl) ?_
    refine nm_get hx hb hg hown hK hP 15 (by decide) (by decide) (hg _ mw_905) d_Mo_variables_124 ?_
    refine lv_iconst (v := 1) hx hb d_Mo_variables_127 (by decide) ?_
    refine lv_isub hx hb d_Mo_variables_128 ?_
    refine lv_iconst (v := 1) hx hb d_Mo_variables_129 (by decide) ?_
    obtain ⟨hi, hk⟩ := hk
    refine nm_st hx hb hK hP hD hS 17 5 rfl (by decide) hi d_Mo_variables_130 (fun H locs hP hD hS => ?_)
    refine lv_aload_n hx hb d_Mo_variables_131 rfl (lv_at hl 1 rfl) ?_
    refine nm_getA hx hb hg hown hK hP 20 (by decide) (by decide) (hg _ mw_910) d_Mo_variables_132 ?_
    refine lv_aload_n hx hb d_Mo_variables_135 rfl (lv_at hl 1 rfl) ?_
    refine nm_get hx hb hg hown hK hP 15 (by decide) (by decide) (hg _ mw_905) d_Mo_variables_136 ?_
    refine nb_top (x.1 15) rfl ?_
    refine lv_iconst (v := 1) hx hb d_Mo_variables_139 (by decide) ?_
    refine lv_isub hx hb d_Mo_variables_140 ?_
    refine lv_iload_n hx hb d_Mo_variables_141 rfl (lv_at hl 0 rfl) ?_
    obtain ⟨hi, hk⟩ := hk
    refine nm_st hx hb hK hP hD hS 20 8 rfl (by decide) hi d_Mo_variables_142 (fun H locs hP hD hS => ?_)
    refine lv_aload_n hx hb d_Mo_variables_143 rfl (lv_at hl 1 rfl) ?_
    obtain ⟨hi, hk⟩ := hk
    have hFc := nm_free hD hS hA
    refine va_callv (va_runV (As := []) (rest := []) ⟨hx, hb, hml, hown, hts⟩ (t_goOn l G _ mo ad (nm_a (nm_a x 17 ((x.1 15) - 1) 1) 20 ((x.1 15) - 1) (x.1 5)) hi) (cwV 0 hts (nn_gV mw_1068 mw_1065 mw_1067 mw_53 mw_94) rfl rfl rfl (by decide +kernel) ⟨Nat.le_of_ble_eq_true rfl, Nat.le_of_ble_eq_true rfl⟩) (nn_preV (va_recv hK hP rfl (q0 := 0) rfl) hP hD hK hN) rfl rfl hl.1 rfl (lv_room (Nat.le_of_ble_eq_true rfl)) d_Mo_variables_144 ⟨Nat.le_of_ble_eq_true rfl, Nat.le_of_ble_eq_true rfl⟩) hS (fun q _ h => hFc q h) hFc (fun u t H locs ht hvm hw hB hz1 hk1 hS => ?_)
    obtain ⟨hP1, hD1⟩ := hB
    rw [ht] at hP1
    have hP := hP1
    have hD := hD1.weaken (fun _ _ _ h => hFc _ h)
    have hl := lv_sub (l' := [(0, .ref mo), (2, .int v2), (3, .int (x.1 5))]) hl [1, 2, 0] rfl
    have hR : k_variables_114 kt x v2 = k_variables_147 kt (m_goOn (nm_a (nm_a x 17 ((x.1 15) - 1) 1) 20 ((x.1 15) - 1) (x.1 5))) v2 (x.1 5) := by rw [k_variables_114]
    exact nm_W1 hR (J147 kt kp ihk (m_goOn (nm_a (nm_a x 17 ((x.1 15) - 1) 1) 20 ((x.1 15) - 1) (x.1 5))) v2 (x.1 5) ls _ _ hk hl hP hD hS)
  have J104 : ∀ (kt : nM → Int32 → Int32 → nM) (kp : nM → Int32 → Int32 → Prop), (∀ (x : nM) (v1 : Int32) (v2 : Int32) (ls : Array Slot) (H : Heap) (locs : List Loc), kp x v1 v2 → lv_has ls 4 [(0, .ref mo), (1, .int v1), (2, .int v2)] → va_P G.1 nn_cls (nm_W G mo ad x) H → va_D A (nm_W G mo ad x) → va_S A s.heap H locs → W p l e (headSpec w_Mo_variables ({ frames := 4, cells := 0, slots := 0, locals := 88 })).room s m [.ref mo].toArray below meth c H locs 0 0 (MQ below (nm_Qv G mo ad (kt x v1 v2) A) [.ref mo].toArray s 0 0 A) (F0 m 17 ls [])) → ∀ (x : nM) (v2 : Int32) (ls : Array Slot) (H : Heap) (locs : List Loc), p_variables_104 kp x v2 → lv_has ls 4 [(0, .ref mo), (2, .int v2)] → va_P G.1 nn_cls (nm_W G mo ad x) H → va_D A (nm_W G mo ad x) → va_S A s.heap H locs → W p l e (headSpec w_Mo_variables ({ frames := 4, cells := 0, slots := 0, locals := 88 })).room s m [.ref mo].toArray below meth c H locs 0 0 (MQ below (nm_Qv G mo ad (k_variables_104 kt x v2) A) [.ref mo].toArray s 0 0 A) (F0 m 104 ls []) := by
    intro kt kp ihk x v2 ls H locs hk hl hP hD hS
    unfold p_variables_104 at hk
    refine lv_aload_n hx hb d_Mo_variables_104 rfl (lv_at hl 0 rfl) ?_
    refine lv_bipush (v := 6) hx hb d_Mo_variables_105 (by decide) ?_
    refine lv_aload_n hx hb d_Mo_variables_107 rfl (lv_at hl 0 rfl) ?_
    refine nm_get hx hb hg hown hK hP 4 (by decide) (by decide) (hg _ mw_894) d_Mo_variables_108 ?_
    have hFc := nm_free hD hS hA
    refine va_callv (va_runV (As := [.int 6, .int (x.1 4)]) (rest := []) ⟨hx, hb, hml, hown, hts⟩ (t_fail l G _ mo ad x 6 (x.1 4)) (cwV 2 hts (nn_gV mw_1080 mw_1077 mw_1079 mw_56 mw_94) rfl rfl rfl (by decide +kernel) ⟨Nat.le_of_ble_eq_true rfl, Nat.le_of_ble_eq_true rfl⟩) (nn_preV (va_recv hK hP rfl (q0 := 0) rfl) hP hD hK hN) rfl rfl hl.1 rfl (lv_room (Nat.le_of_ble_eq_true rfl)) d_Mo_variables_111 ⟨Nat.le_of_ble_eq_true rfl, Nat.le_of_ble_eq_true rfl⟩) hS (fun q _ h => hFc q h) hFc (fun u t H locs ht hvm hw hB hz1 hk1 hS => ?_)
    obtain ⟨hP1, hD1⟩ := hB
    rw [ht] at hP1
    have hP := hP1
    have hD := hD1.weaken (fun _ _ _ h => hFc _ h)
    have hl := lv_sub (l' := [(0, .ref mo), (2, .int v2)]) hl [0, 1] rfl
    have hR : k_variables_104 kt x v2 = k_variables_114 kt (m_fail x 6 (x.1 4)) v2 := by rw [k_variables_104]
    exact nm_W1 hR (J114 kt kp ihk (m_fail x 6 (x.1 4)) v2 ls _ _ hk hl hP hD hS)
  have J17 : ∀ (n : Nat) (x : nM) (v1 : Int32) (v2 : Int32) (ls : Array Slot) (H : Heap) (locs : List Loc), p_variables_17 n x v1 v2 → lv_has ls 4 [(0, .ref mo), (1, .int v1), (2, .int v2)] → va_P G.1 nn_cls (nm_W G mo ad x) H → va_D A (nm_W G mo ad x) → va_S A s.heap H locs → W p l e (headSpec w_Mo_variables ({ frames := 4, cells := 0, slots := 0, locals := 88 })).room s m [.ref mo].toArray below meth c H locs 0 0 (MQ below (nm_Qv G mo ad (k_variables_17 n x v1 v2) A) [.ref mo].toArray s 0 0 A) (F0 m 17 ls []) := by
    intro n
    induction n with
    | zero =>
      intro x v1 v2 ls H locs hk
      exact (show False from hk).elim
    | succ n ih =>
      intro x v1 v2 ls H locs hk hl hP hD hS
      unfold p_variables_17 at hk
      refine lv_iload_n hx hb d_Mo_variables_17 rfl (lv_at hl 2 rfl) ?_
      refine lv_sipush (v := 180) hx hb d_Mo_variables_18 (by decide) ?_
      refine lv_icmp_ge (tgt := 190) hx hb d_Mo_variables_21 rfl (fun hc21 => ?_) (fun hc21 => ?_)
      · skip
        have hk := hk.1 hc21
        have hR : k_variables_17 (n + 1) x v1 v2 = x := by rw [k_variables_17]; rw [if_pos hc21]
        refine nm_W1 hR ?_
        exact W.vret hx hb hr (fun t ht hW => ⟨⟨(), rfl, trivial, ⟨by rw [ht]; exact hP, hD⟩⟩, hS.F ht⟩) hS.2.2 d_Mo_variables_190
      · skip
        have hk := hk.2 hc21
        refine lv_iload_n hx hb d_Mo_variables_24 rfl (lv_at hl 1 rfl) ?_
        refine lv_if_eq (tgt := 190) hx hb d_Mo_variables_25 rfl (fun hc25 => ?_) (fun hc25 => ?_)
        · skip
          have hk := hk.1 hc25
          have hR : k_variables_17 (n + 1) x v1 v2 = x := by rw [k_variables_17]; rw [if_neg hc21]; rw [if_pos hc25]
          refine nm_W1 hR ?_
          exact W.vret hx hb hr (fun t ht hW => ⟨⟨(), rfl, trivial, ⟨by rw [ht]; exact hP, hD⟩⟩, hS.F ht⟩) hS.2.2 d_Mo_variables_190
        · skip
          have hk := hk.2 hc25
          refine lv_aload_n hx hb d_Mo_variables_28 rfl (lv_at hl 0 rfl) ?_
          refine nm_get hx hb hg hown hK hP 7 (by decide) (by decide) (hg _ mw_897) d_Mo_variables_29 ?_
          refine lv_if_ne (tgt := 190) hx hb d_Mo_variables_32 rfl (fun hc32 => ?_) (fun hc32 => ?_)
          · skip
            have hk := hk.2 hc32
            have hR : k_variables_17 (n + 1) x v1 v2 = x := by rw [k_variables_17]; rw [if_neg hc21]; rw [if_neg hc25]; rw [if_neg hc32]
            refine nm_W1 hR ?_
            exact W.vret hx hb hr (fun t ht hW => ⟨⟨(), rfl, trivial, ⟨by rw [ht]; exact hP, hD⟩⟩, hS.F ht⟩) hS.2.2 d_Mo_variables_190
          · skip
            have hk := hk.1 hc32
            refine lv_aload_n hx hb d_Mo_variables_35 rfl (lv_at hl 0 rfl) ?_
            refine lv_iconst (v := 0) hx hb d_Mo_variables_36 (by decide) ?_
            refine lv_aload_n hx hb d_Mo_variables_37 rfl (lv_at hl 0 rfl) ?_
            refine nm_get hx hb hg hown hK hP 22 (by decide) (by decide) (hg _ mw_912) d_Mo_variables_38 ?_
            refine lv_iconst (v := 0) hx hb d_Mo_variables_41 (by decide) ?_
            obtain ⟨hi, hk⟩ := hk
            have hFc := nm_free hD hS hA
            refine va_callv (va_runV (As := [.int 0, .int (x.1 22), .int 0]) (rest := []) ⟨hx, hb, hml, hown, hts⟩ (t_declare l G _ mo ad x 0 (x.1 22) 0 hi) (cwV 3 hts (nn_gV mw_1072 mw_1069 mw_1071 mw_54 mw_94) rfl rfl rfl (by decide +kernel) ⟨Nat.le_of_ble_eq_true rfl, Nat.le_of_ble_eq_true rfl⟩) (nn_preV (va_recv hK hP rfl (q0 := 0) rfl) hP hD hK hN) rfl rfl hl.1 rfl (lv_room (Nat.le_of_ble_eq_true rfl)) d_Mo_variables_42 ⟨Nat.le_of_ble_eq_true rfl, Nat.le_of_ble_eq_true rfl⟩) hS (fun q _ h => hFc q h) hFc (fun u t H locs ht hvm hw hB hz1 hk1 hS => ?_)
            obtain ⟨hP1, hD1⟩ := hB
            rw [ht] at hP1
            have hP := hP1
            have hD := hD1.weaken (fun _ _ _ h => hFc _ h)
            refine lv_iconst (v := 1) hx hb d_Mo_variables_45 (by decide) ?_
            refine lv_istore_n (lv' := [(3, .int 1), (0, .ref mo), (1, .int v1), (2, .int v2)]) hx hb d_Mo_variables_46 rfl hl (by decide) rfl (fun ls hl => ?_)
            refine lv_aload_n hx hb d_Mo_variables_47 rfl (lv_at hl 1 rfl) ?_
            refine nm_get hx hb hg hown hK hP 7 (by decide) (by decide) (hg _ mw_897) d_Mo_variables_48 ?_
            refine lv_if_ne (tgt := 147) hx hb d_Mo_variables_51 rfl (fun hc51 => ?_) (fun hc51 => ?_)
            · skip
              have hk := hk.2 hc51
              have hl := lv_sub (l' := [(0, .ref mo), (2, .int v2), (3, .int 1)]) hl [1, 3, 0] rfl
              have hR : k_variables_17 (n + 1) x v1 v2 = k_variables_147 (k_variables_17 n) (m_declare x 0 (x.1 22) 0) v2 1 := by rw [k_variables_17]; rw [if_neg hc21]; rw [if_neg hc25]; rw [if_pos hc32]; rw [if_neg hc51]
              exact nm_W1 hR (J147 _ _ ih (m_declare x 0 (x.1 22) 0) v2 1 ls _ _ hk hl hP hD hS)
            · skip
              have hk := hk.1 hc51
              refine lv_aload_n hx hb d_Mo_variables_54 rfl (lv_at hl 1 rfl) ?_
              refine nm_get hx hb hg hown hK hP 3 (by decide) (by decide) (hg _ mw_893) d_Mo_variables_55 ?_
              refine lv_bipush (v := 6) hx hb d_Mo_variables_58 (by decide) ?_
              refine lv_icmp_ne (tgt := 147) hx hb d_Mo_variables_60 rfl (fun hc60 => ?_) (fun hc60 => ?_)
              · skip
                have hk := hk.2 hc60
                have hl := lv_sub (l' := [(0, .ref mo), (2, .int v2), (3, .int 1)]) hl [1, 3, 0] rfl
                have hR : k_variables_17 (n + 1) x v1 v2 = k_variables_147 (k_variables_17 n) (m_declare x 0 (x.1 22) 0) v2 1 := by rw [k_variables_17]; rw [if_neg hc21]; rw [if_neg hc25]; rw [if_pos hc32]; rw [if_pos hc51]; rw [if_neg hc60]
                exact nm_W1 hR (J147 _ _ ih (m_declare x 0 (x.1 22) 0) v2 1 ls _ _ hk hl hP hD hS)
              · skip
                have hk := hk.1 hc60
                refine lv_aload_n hx hb d_Mo_variables_63 rfl (lv_at hl 1 rfl) ?_
                obtain ⟨hi, hk⟩ := hk
                have hFc := nm_free hD hS hA
                refine va_callv (va_runV (As := []) (rest := []) ⟨hx, hb, hml, hown, hts⟩ (t_goOn l G _ mo ad (m_declare x 0 (x.1 22) 0) hi) (cwV 0 hts (nn_gV mw_1068 mw_1065 mw_1067 mw_53 mw_94) rfl rfl rfl (by decide +kernel) ⟨Nat.le_of_ble_eq_true rfl, Nat.le_of_ble_eq_true rfl⟩) (nn_preV (va_recv hK hP rfl (q0 := 0) rfl) hP hD hK hN) rfl rfl hl.1 rfl (lv_room (Nat.le_of_ble_eq_true rfl)) d_Mo_variables_64 ⟨Nat.le_of_ble_eq_true rfl, Nat.le_of_ble_eq_true rfl⟩) hS (fun q _ h => hFc q h) hFc (fun u t H locs ht hvm hw hB hz1 hk1 hS => ?_)
                obtain ⟨hP1, hD1⟩ := hB
                rw [ht] at hP1
                have hP := hP1
                have hD := hD1.weaken (fun _ _ _ h => hFc _ h)
                refine lv_aload_n hx hb d_Mo_variables_67 rfl (lv_at hl 1 rfl) ?_
                refine nm_get hx hb hg hown hK hP 3 (by decide) (by decide) (hg _ mw_893) d_Mo_variables_68 ?_
                refine lv_iconst (v := 3) hx hb d_Mo_variables_71 (by decide) ?_
                refine lv_icmp_eq (tgt := 87) hx hb d_Mo_variables_72 rfl (fun hc72 => ?_) (fun hc72 => ?_)
                · skip
                  have hk := hk.1 hc72
                  refine lv_aload_n hx hb d_Mo_variables_87 rfl (lv_at hl 1 rfl) ?_
                  refine nm_get hx hb hg hown hK hP 5 (by decide) (by decide) (hg _ mw_895) d_Mo_variables_88 ?_
                  refine lv_iconst (v := 1) hx hb d_Mo_variables_91 (by decide) ?_
                  refine lv_icmp_lt (tgt := 104) hx hb d_Mo_variables_92 rfl (fun hc92 => ?_) (fun hc92 => ?_)
                  · skip
                    have hk := hk.1 hc92
                    have hl := lv_sub (l' := [(0, .ref mo), (2, .int v2)]) hl [1, 3] rfl
                    have hR : k_variables_17 (n + 1) x v1 v2 = k_variables_104 (k_variables_17 n) (m_goOn (m_declare x 0 (x.1 22) 0)) v2 := by rw [k_variables_17]; rw [if_neg hc21]; rw [if_neg hc25]; rw [if_pos hc32]; rw [if_pos hc51]; rw [if_pos hc60]; rw [if_pos hc72]; rw [if_pos hc92]
                    exact nm_W1 hR (J104 _ _ ih (m_goOn (m_declare x 0 (x.1 22) 0)) v2 ls _ _ hk hl hP hD hS)
                  · skip
                    have hk := hk.2 hc92
                    refine lv_aload_n hx hb d_Mo_variables_95 rfl (lv_at hl 1 rfl) ?_
                    refine nm_get hx hb hg hown hK hP 5 (by decide) (by decide) (hg _ mw_895) d_Mo_variables_96 ?_
                    refine lv_bipush (v := 30) hx hb d_Mo_variables_99 (by decide) ?_
                    refine lv_icmp_le (tgt := 114) hx hb d_Mo_variables_101 rfl (fun hc101 => ?_) (fun hc101 => ?_)
                    · skip
                      have hk := hk.1 hc101
                      have hl := lv_sub (l' := [(0, .ref mo), (2, .int v2)]) hl [1, 3] rfl
                      have hR : k_variables_17 (n + 1) x v1 v2 = k_variables_114 (k_variables_17 n) (m_goOn (m_declare x 0 (x.1 22) 0)) v2 := by rw [k_variables_17]; rw [if_neg hc21]; rw [if_neg hc25]; rw [if_pos hc32]; rw [if_pos hc51]; rw [if_pos hc60]; rw [if_pos hc72]; rw [if_neg hc92]; rw [if_pos hc101]
                      exact nm_W1 hR (J114 _ _ ih (m_goOn (m_declare x 0 (x.1 22) 0)) v2 ls _ _ hk hl hP hD hS)
                    · skip
                      have hk := hk.2 hc101
                      have hl := lv_sub (l' := [(0, .ref mo), (2, .int v2)]) hl [1, 3] rfl
                      have hR : k_variables_17 (n + 1) x v1 v2 = k_variables_104 (k_variables_17 n) (m_goOn (m_declare x 0 (x.1 22) 0)) v2 := by rw [k_variables_17]; rw [if_neg hc21]; rw [if_neg hc25]; rw [if_pos hc32]; rw [if_pos hc51]; rw [if_pos hc60]; rw [if_pos hc72]; rw [if_neg hc92]; rw [if_neg hc101]
                      exact nm_W1 hR (J104 _ _ ih (m_goOn (m_declare x 0 (x.1 22) 0)) v2 ls _ _ hk hl hP hD hS)
                · skip
                  have hk := hk.2 hc72
                  refine lv_aload_n hx hb d_Mo_variables_75 rfl (lv_at hl 1 rfl) ?_
                  refine lv_iconst (v := 1) hx hb d_Mo_variables_76 (by decide) ?_
                  refine lv_aload_n hx hb d_Mo_variables_77 rfl (lv_at hl 1 rfl) ?_
                  refine nm_get hx hb hg hown hK hP 4 (by decide) (by decide) (hg _ mw_894) d_Mo_variables_78 ?_
                  have hFc := nm_free hD hS hA
                  refine va_callv (va_runV (As := [.int 1, .int ((m_goOn (m_declare x 0 (x.1 22) 0)).1 4)]) (rest := []) ⟨hx, hb, hml, hown, hts⟩ (t_fail l G _ mo ad (m_goOn (m_declare x 0 (x.1 22) 0)) 1 ((m_goOn (m_declare x 0 (x.1 22) 0)).1 4)) (cwV 2 hts (nn_gV mw_1080 mw_1077 mw_1079 mw_56 mw_94) rfl rfl rfl (by decide +kernel) ⟨Nat.le_of_ble_eq_true rfl, Nat.le_of_ble_eq_true rfl⟩) (nn_preV (va_recv hK hP rfl (q0 := 0) rfl) hP hD hK hN) rfl rfl hl.1 rfl (lv_room (Nat.le_of_ble_eq_true rfl)) d_Mo_variables_81 ⟨Nat.le_of_ble_eq_true rfl, Nat.le_of_ble_eq_true rfl⟩) hS (fun q _ h => hFc q h) hFc (fun u t H locs ht hvm hw hB hz1 hk1 hS => ?_)
                  obtain ⟨hP1, hD1⟩ := hB
                  rw [ht] at hP1
                  have hP := hP1
                  have hD := hD1.weaken (fun _ _ _ h => hFc _ h)
                  refine lv_goto (tgt := 114) hx hb d_Mo_variables_84 rfl ?_
                  have hl := lv_sub (l' := [(0, .ref mo), (2, .int v2)]) hl [1, 3] rfl
                  have hR : k_variables_17 (n + 1) x v1 v2 = k_variables_114 (k_variables_17 n) (m_fail (m_goOn (m_declare x 0 (x.1 22) 0)) 1 ((m_goOn (m_declare x 0 (x.1 22) 0)).1 4)) v2 := by rw [k_variables_17]; rw [if_neg hc21]; rw [if_neg hc25]; rw [if_pos hc32]; rw [if_pos hc51]; rw [if_pos hc60]; rw [if_neg hc72]
                  exact nm_W1 hR (J114 _ _ ih (m_fail (m_goOn (m_declare x 0 (x.1 22) 0)) 1 ((m_goOn (m_declare x 0 (x.1 22) 0)).1 4)) v2 ls _ _ hk hl hP hD hS)
  unfold o_variables at hk
  refine lv_aload_n hx hb d_Mo_variables_0 rfl (lv_at hl 0 rfl) ?_
  refine nm_get hx hb hg hown hK hP 3 (by decide) (by decide) (hg _ mw_893) d_Mo_variables_1 ?_
  refine lv_iconst (v := 4) hx hb d_Mo_variables_4 (by decide) ?_
  refine lv_icmp_eq (tgt := 9) hx hb d_Mo_variables_5 rfl (fun hc5 => ?_) (fun hc5 => ?_)
  · skip
    have hk := hk.1 hc5
    refine lv_aload_n hx hb d_Mo_variables_9 rfl (lv_at hl 0 rfl) ?_
    obtain ⟨hi, hk⟩ := hk
    have hFc := nm_free hD hS hA
    refine va_callv (va_runV (As := []) (rest := []) ⟨hx, hb, hml, hown, hts⟩ (t_goOn l G _ mo ad x hi) (cwV 0 hts (nn_gV mw_1068 mw_1065 mw_1067 mw_53 mw_94) rfl rfl rfl (by decide +kernel) ⟨Nat.le_of_ble_eq_true rfl, Nat.le_of_ble_eq_true rfl⟩) (nn_preV (va_recv hK hP rfl (q0 := 0) rfl) hP hD hK hN) rfl rfl hl.1 rfl (lv_room (Nat.le_of_ble_eq_true rfl)) d_Mo_variables_10 ⟨Nat.le_of_ble_eq_true rfl, Nat.le_of_ble_eq_true rfl⟩) hS (fun q _ h => hFc q h) hFc (fun u t H locs ht hvm hw hB hz1 hk1 hS => ?_)
    obtain ⟨hP1, hD1⟩ := hB
    rw [ht] at hP1
    have hP := hP1
    have hD := hD1.weaken (fun _ _ _ h => hFc _ h)
    refine lv_iconst (v := 1) hx hb d_Mo_variables_13 (by decide) ?_
    refine lv_istore_n (lv' := [(1, .int 1), (0, .ref mo)]) hx hb d_Mo_variables_14 rfl hl (by decide) rfl (fun ls hl => ?_)
    refine lv_iconst (v := 0) hx hb d_Mo_variables_15 (by decide) ?_
    refine lv_istore_n (lv' := [(2, .int 0), (1, .int 1), (0, .ref mo)]) hx hb d_Mo_variables_16 rfl hl (by decide) rfl (fun ls hl => ?_)
    have hl := lv_sub (l' := [(0, .ref mo), (1, .int 1), (2, .int 0)]) hl [2, 1, 0] rfl
    have hR : m_variables x = k_variables_17 300 (m_goOn x) 1 0 := by rw [m_variables]; rw [if_pos hc5]
    exact nm_W1 hR (J17 300 (m_goOn x) 1 0 ls _ _ hk hl hP hD hS)
  · skip
    have hk := hk.2 hc5
    have hR : m_variables x = x := by rw [m_variables]; rw [if_neg hc5]
    refine nm_W1 hR ?_
    exact W.vret hx hb hr (fun t ht hW => ⟨⟨(), rfl, trivial, ⟨by rw [ht]; exact hP, hD⟩⟩, hS.F ht⟩) hS.2.2 d_Mo_variables_8

theorem mw_46 : (.selects R_Mo y_Mo_push y_Mo_push : Cond) ∈ nn_gw := nn_at 46 (by decide +kernel) (by decide +kernel)
theorem mw_51 : (.selects R_Mo y_Mo_emit y_Mo_emit : Cond) ∈ nn_gw := nn_at 51 (by decide +kernel) (by decide +kernel)
theorem mw_52 : (.selects R_Mo y_Mo_variables y_Mo_variables : Cond) ∈ nn_gw := nn_at 52 (by decide +kernel) (by decide +kernel)
theorem mw_913 : (.fieldLink R_Mo 159 R_Mo "parameters" "I" : Cond) ∈ nn_gw := nn_at 913 (by decide +kernel) (by decide +kernel)
theorem mw_1025 : (.methodLink R_Mo 162 y_Mo_push : Cond) ∈ nn_gw := nn_at 1025 (by decide +kernel) (by decide +kernel)
theorem mw_1027 : (.instanceMethod y_Mo_push : Cond) ∈ nn_gw := nn_at 1027 (by decide +kernel) (by decide +kernel)
set_option maxRecDepth 100000 in
theorem mw_1028 : (.code y_Mo_push b_Mo_push 4 none : Cond) ∈ nn_gw := nn_at 1028 (by rfl) (by decide +kernel)
theorem mw_1057 : (.methodLink R_Mo 152 y_Mo_emit : Cond) ∈ nn_gw := nn_at 1057 (by decide +kernel) (by decide +kernel)
theorem mw_1059 : (.instanceMethod y_Mo_emit : Cond) ∈ nn_gw := nn_at 1059 (by decide +kernel) (by decide +kernel)
set_option maxRecDepth 100000 in
theorem mw_1060 : (.code y_Mo_emit b_Mo_emit 4 (some .int) : Cond) ∈ nn_gw := nn_at 1060 (by rfl) (by decide +kernel)
theorem mw_1061 : (.methodLink R_Mo 156 y_Mo_variables : Cond) ∈ nn_gw := nn_at 1061 (by decide +kernel) (by decide +kernel)
theorem mw_1063 : (.instanceMethod y_Mo_variables : Cond) ∈ nn_gw := nn_at 1063 (by decide +kernel) (by decide +kernel)
set_option maxRecDepth 100000 in
theorem mw_1064 : (.code y_Mo_variables b_Mo_variables 4 none : Cond) ∈ nn_gw := nn_at 1064 (by rfl) (by decide +kernel)
theorem d_Mo_block_0 : decode b_Mo_block 0 = .ok (.aload_n 0, 1) := by decide +kernel
theorem d_Mo_block_1 : decode b_Mo_block 1 = .ok (.bipush 7, 2) := by decide +kernel
theorem d_Mo_block_3 : decode b_Mo_block 3 = .ok (.iconst 0, 1) := by decide +kernel
theorem d_Mo_block_4 : decode b_Mo_block 4 = .ok (.iconst 0, 1) := by decide +kernel
theorem d_Mo_block_5 : decode b_Mo_block 5 = .ok (.invokevirtual 152, 3) := by decide +kernel
theorem d_Mo_block_8 : decode b_Mo_block 8 = .ok (.istore_n 1, 1) := by decide +kernel
theorem d_Mo_block_9 : decode b_Mo_block 9 = .ok (.aload_n 0, 1) := by decide +kernel
theorem d_Mo_block_10 : decode b_Mo_block 10 = .ok (.invokevirtual 156, 3) := by decide +kernel
theorem d_Mo_block_13 : decode b_Mo_block 13 = .ok (.aload_n 0, 1) := by decide +kernel
theorem d_Mo_block_14 : decode b_Mo_block 14 = .ok (.iconst 1, 1) := by decide +kernel
theorem d_Mo_block_15 : decode b_Mo_block 15 = .ok (.iload_n 1, 1) := by decide +kernel
theorem d_Mo_block_16 : decode b_Mo_block 16 = .ok (.aload_n 0, 1) := by decide +kernel
theorem d_Mo_block_17 : decode b_Mo_block 17 = .ok (.getfield 159, 3) := by decide +kernel
theorem d_Mo_block_20 : decode b_Mo_block 20 = .ok (.invokevirtual 162, 3) := by decide +kernel
theorem d_Mo_block_23 : decode b_Mo_block 23 = .ok (.return_, 1) := by decide +kernel

def m_block (x : nM)  : nM := (m_push (m_variables ((m_emit x 7 0 0).1)) 1 ((m_emit x 7 0 0).2) ((m_variables ((m_emit x 7 0 0).1)).1 23))
def o_block (x : nM)  : Prop := o_emit x 7 0 0 ∧ o_variables ((m_emit x 7 0 0).1) ∧ o_push (m_variables ((m_emit x 7 0 0).1)) 1 ((m_emit x 7 0 0).2) ((m_variables ((m_emit x 7 0 0).1)).1 23) ∧ True
set_option maxHeartbeats 4000000 in
set_option maxRecDepth 100000 in
theorem t_block (l : Launch) (G : nn_G) (sz : Nat) (mo : Nat) (ad : Nat → Nat) (x : nM)  (hk : o_block x) : Met l y_Mo_block w_Mo_block ({ frames := 5, cells := 0, slots := 0, locals := 111 }) (nn_P G [.ref mo] (nm_W G mo ad x) sz) (nm_Qv G mo ad (m_block x) (va_A (nm_W G mo ad x) sz)) 0 0 (va_A (nm_W G mo ad x) sz) := by
  refine Met.ofW (cc := b_Mo_block) (maxL := 2) (ret := none) (by decide) rfl ?_
  intro p e s m args below meth c s₁ B hml hv
  obtain ⟨rfl, hsz, hP, hK, hD0, hN⟩ := hv
  have hx := B.exec
  have hb := B.bytes
  have hr := B.returns
  have hts := atoms_spec (ws := w_Mo_block) B.pre
  have hg : ∀ w ∈ nn_gw, w.before _ s = true := fun w h => hts w (List.mem_cons_of_mem _ h)
  have hown : s.vm.findClass R_Mo = some m.cls := findClass_of_methodNamed B.named
  subst hsz
  have hD := hD0.self (sz := s.heap.size)
  generalize hAe : va_A (nm_W G mo ad x) s.heap.size = A at hD ⊢
  have hA : ∀ q : Nat, s.heap.size ≤ q → A q := fun q h => by rw [← hAe]; exact Or.inr h
  clear hAe
  have hS : va_S A s.heap s.heap [] := va_S.rf
  have hP : va_P G.1 nn_cls (nm_W G mo ad x) s.heap := hP
  have hl := lv_entry ([.ref mo]) (n := 2) (Nat.le_of_ble_eq_true rfl)
  rw [lg_entry_eq]
  generalize (lg_sl ([.ref mo]) ++ List.replicate (2 - (lg_sl ([.ref mo])).length) Slot.unset).toArray = ls at hl ⊢
  have hl : lv_has ls 2 [(0, .ref mo)] := hl
  unfold o_block at hk
  refine lv_aload_n hx hb d_Mo_block_0 rfl (lv_at hl 0 rfl) ?_
  refine lv_bipush (v := 7) hx hb d_Mo_block_1 (by decide) ?_
  refine lv_iconst (v := 0) hx hb d_Mo_block_3 (by decide) ?_
  refine lv_iconst (v := 0) hx hb d_Mo_block_4 (by decide) ?_
  obtain ⟨hi, hk⟩ := hk
  have hFc := nm_free hD hS hA
  refine va_calli (va_runV (As := [.int 7, .int 0, .int 0]) (rest := []) ⟨hx, hb, hml, hown, hts⟩ (t_emit l G _ mo ad x 7 0 0 hi) (cwV 3 hts (nn_gV mw_1060 mw_1057 mw_1059 mw_51 mw_94) rfl rfl rfl (by decide +kernel) ⟨Nat.le_of_ble_eq_true rfl, Nat.le_of_ble_eq_true rfl⟩) (nn_preV (va_recv hK hP rfl (q0 := 0) rfl) hP hD hK hN) rfl rfl hl.1 rfl (lv_room (Nat.le_of_ble_eq_true rfl)) d_Mo_block_5 ⟨Nat.le_of_ble_eq_true rfl, Nat.le_of_ble_eq_true rfl⟩) hS (fun q _ h => hFc q h) hFc (fun r1 u t H locs ht hvm hw hB hz1 hk1 hS => ?_)
  subst hw
  obtain ⟨hP1, hD1⟩ := hB
  rw [ht] at hP1
  have hP := hP1
  have hD := hD1.weaken (fun _ _ _ h => hFc _ h)
  refine lv_istore_n (lv' := [(1, .int ((m_emit x 7 0 0).2)), (0, .ref mo)]) hx hb d_Mo_block_8 rfl hl (by decide) rfl (fun ls hl => ?_)
  refine lv_aload_n hx hb d_Mo_block_9 rfl (lv_at hl 1 rfl) ?_
  obtain ⟨hi, hk⟩ := hk
  have hFc := nm_free hD hS hA
  refine va_callv (va_runV (As := []) (rest := []) ⟨hx, hb, hml, hown, hts⟩ (t_variables l G _ mo ad ((m_emit x 7 0 0).1) hi) (cwV 0 hts (nn_gV mw_1064 mw_1061 mw_1063 mw_52 mw_94) rfl rfl rfl (by decide +kernel) ⟨Nat.le_of_ble_eq_true rfl, Nat.le_of_ble_eq_true rfl⟩) (nn_preV (va_recv hK hP rfl (q0 := 0) rfl) hP hD hK hN) rfl rfl hl.1 rfl (lv_room (Nat.le_of_ble_eq_true rfl)) d_Mo_block_10 ⟨Nat.le_of_ble_eq_true rfl, Nat.le_of_ble_eq_true rfl⟩) hS (fun q _ h => hFc q h) hFc (fun u t H locs ht hvm hw hB hz1 hk1 hS => ?_)
  obtain ⟨hP1, hD1⟩ := hB
  rw [ht] at hP1
  have hP := hP1
  have hD := hD1.weaken (fun _ _ _ h => hFc _ h)
  refine lv_aload_n hx hb d_Mo_block_13 rfl (lv_at hl 1 rfl) ?_
  refine lv_iconst (v := 1) hx hb d_Mo_block_14 (by decide) ?_
  refine lv_iload_n hx hb d_Mo_block_15 rfl (lv_at hl 0 rfl) ?_
  refine lv_aload_n hx hb d_Mo_block_16 rfl (lv_at hl 1 rfl) ?_
  refine nm_get hx hb hg hown hK hP 23 (by decide) (by decide) (hg _ mw_913) d_Mo_block_17 ?_
  obtain ⟨hi, hk⟩ := hk
  have hFc := nm_free hD hS hA
  refine va_callv (va_runV (As := [.int 1, .int ((m_emit x 7 0 0).2), .int ((m_variables ((m_emit x 7 0 0).1)).1 23)]) (rest := []) ⟨hx, hb, hml, hown, hts⟩ (t_push l G _ mo ad (m_variables ((m_emit x 7 0 0).1)) 1 ((m_emit x 7 0 0).2) ((m_variables ((m_emit x 7 0 0).1)).1 23) hi) (cwV 3 hts (nn_gV mw_1028 mw_1025 mw_1027 mw_46 mw_94) rfl rfl rfl (by decide +kernel) ⟨Nat.le_of_ble_eq_true rfl, Nat.le_of_ble_eq_true rfl⟩) (nn_preV (va_recv hK hP rfl (q0 := 0) rfl) hP hD hK hN) rfl rfl hl.1 rfl (lv_room (Nat.le_of_ble_eq_true rfl)) d_Mo_block_20 ⟨Nat.le_of_ble_eq_true rfl, Nat.le_of_ble_eq_true rfl⟩) hS (fun q _ h => hFc q h) hFc (fun u t H locs ht hvm hw hB hz1 hk1 hS => ?_)
  obtain ⟨hP1, hD1⟩ := hB
  rw [ht] at hP1
  have hP := hP1
  have hD := hD1.weaken (fun _ _ _ h => hFc _ h)
  have hR : m_block x = m_push (m_variables ((m_emit x 7 0 0).1)) 1 ((m_emit x 7 0 0).2) ((m_variables ((m_emit x 7 0 0).1)).1 23) := by rw [m_block]
  refine nm_W1 hR ?_
  exact W.vret hx hb hr (fun t ht hW => ⟨⟨(), rfl, trivial, ⟨by rw [ht]; exact hP, hD⟩⟩, hS.F ht⟩) hS.2.2 d_Mo_block_23

theorem d_Mo_procedure_0 : decode b_Mo_procedure 0 = .ok (.aload_n 0, 1) := by decide +kernel
theorem d_Mo_procedure_1 : decode b_Mo_procedure 1 = .ok (.getfield 130, 3) := by decide +kernel
theorem d_Mo_procedure_4 : decode b_Mo_procedure 4 = .ok (.iconst 4, 1) := by decide +kernel
theorem d_Mo_procedure_5 : decode b_Mo_procedure 5 = .ok (.if_icmp .ne 14, 3) := by decide +kernel
theorem d_Mo_procedure_8 : decode b_Mo_procedure 8 = .ok (.aload_n 0, 1) := by decide +kernel
theorem d_Mo_procedure_9 : decode b_Mo_procedure 9 = .ok (.bipush 6, 2) := by decide +kernel
theorem d_Mo_procedure_11 : decode b_Mo_procedure 11 = .ok (.aload_n 0, 1) := by decide +kernel
theorem d_Mo_procedure_12 : decode b_Mo_procedure 12 = .ok (.getfield 78, 3) := by decide +kernel
theorem d_Mo_procedure_15 : decode b_Mo_procedure 15 = .ok (.invokevirtual 120, 3) := by decide +kernel
theorem d_Mo_procedure_18 : decode b_Mo_procedure 18 = .ok (.return_, 1) := by decide +kernel
theorem d_Mo_procedure_19 : decode b_Mo_procedure 19 = .ok (.aload_n 0, 1) := by decide +kernel
theorem d_Mo_procedure_20 : decode b_Mo_procedure 20 = .ok (.invokevirtual 117, 3) := by decide +kernel
theorem d_Mo_procedure_23 : decode b_Mo_procedure 23 = .ok (.aload_n 0, 1) := by decide +kernel
theorem d_Mo_procedure_24 : decode b_Mo_procedure 24 = .ok (.iconst 2, 1) := by decide +kernel
theorem d_Mo_procedure_25 : decode b_Mo_procedure 25 = .ok (.aload_n 0, 1) := by decide +kernel
theorem d_Mo_procedure_26 : decode b_Mo_procedure 26 = .ok (.getfield 133, 3) := by decide +kernel
theorem d_Mo_procedure_29 : decode b_Mo_procedure 29 = .ok (.iconst 0, 1) := by decide +kernel
theorem d_Mo_procedure_30 : decode b_Mo_procedure 30 = .ok (.invokevirtual 145, 3) := by decide +kernel
theorem d_Mo_procedure_33 : decode b_Mo_procedure 33 = .ok (.aload_n 0, 1) := by decide +kernel
theorem d_Mo_procedure_34 : decode b_Mo_procedure 34 = .ok (.getfield 124, 3) := by decide +kernel
theorem d_Mo_procedure_37 : decode b_Mo_procedure 37 = .ok (.iconst 1, 1) := by decide +kernel
theorem d_Mo_procedure_38 : decode b_Mo_procedure 38 = .ok (.isub, 1) := by decide +kernel
theorem d_Mo_procedure_39 : decode b_Mo_procedure 39 = .ok (.istore_n 1, 1) := by decide +kernel
theorem d_Mo_procedure_40 : decode b_Mo_procedure 40 = .ok (.aload_n 0, 1) := by decide +kernel
theorem d_Mo_procedure_41 : decode b_Mo_procedure 41 = .ok (.iconst 3, 1) := by decide +kernel
theorem d_Mo_procedure_42 : decode b_Mo_procedure 42 = .ok (.aload_n 0, 1) := by decide +kernel
theorem d_Mo_procedure_43 : decode b_Mo_procedure 43 = .ok (.getfield 124, 3) := by decide +kernel
theorem d_Mo_procedure_46 : decode b_Mo_procedure 46 = .ok (.aload_n 0, 1) := by decide +kernel
theorem d_Mo_procedure_47 : decode b_Mo_procedure 47 = .ok (.getfield 142, 3) := by decide +kernel
theorem d_Mo_procedure_50 : decode b_Mo_procedure 50 = .ok (.invokevirtual 162, 3) := by decide +kernel
theorem d_Mo_procedure_53 : decode b_Mo_procedure 53 = .ok (.aload_n 0, 1) := by decide +kernel
theorem d_Mo_procedure_54 : decode b_Mo_procedure 54 = .ok (.dup, 1) := by decide +kernel
theorem d_Mo_procedure_55 : decode b_Mo_procedure 55 = .ok (.getfield 130, 3) := by decide +kernel
theorem d_Mo_procedure_58 : decode b_Mo_procedure 58 = .ok (.iconst 1, 1) := by decide +kernel
theorem d_Mo_procedure_59 : decode b_Mo_procedure 59 = .ok (.iadd, 1) := by decide +kernel
theorem d_Mo_procedure_60 : decode b_Mo_procedure 60 = .ok (.putfield 130, 3) := by decide +kernel
theorem d_Mo_procedure_63 : decode b_Mo_procedure 63 = .ok (.aload_n 0, 1) := by decide +kernel
theorem d_Mo_procedure_64 : decode b_Mo_procedure 64 = .ok (.iconst 3, 1) := by decide +kernel
theorem d_Mo_procedure_65 : decode b_Mo_procedure 65 = .ok (.putfield 142, 3) := by decide +kernel
theorem d_Mo_procedure_68 : decode b_Mo_procedure 68 = .ok (.iconst 0, 1) := by decide +kernel
theorem d_Mo_procedure_69 : decode b_Mo_procedure 69 = .ok (.istore_n 2, 1) := by decide +kernel
theorem d_Mo_procedure_70 : decode b_Mo_procedure 70 = .ok (.aload_n 0, 1) := by decide +kernel
theorem d_Mo_procedure_71 : decode b_Mo_procedure 71 = .ok (.getfield 111, 3) := by decide +kernel
theorem d_Mo_procedure_74 : decode b_Mo_procedure 74 = .ok (.ifCond .ne 102, 3) := by decide +kernel
theorem d_Mo_procedure_77 : decode b_Mo_procedure 77 = .ok (.aload_n 0, 1) := by decide +kernel
theorem d_Mo_procedure_78 : decode b_Mo_procedure 78 = .ok (.getfield 88, 3) := by decide +kernel
theorem d_Mo_procedure_81 : decode b_Mo_procedure 81 = .ok (.bipush 40, 2) := by decide +kernel
theorem d_Mo_procedure_83 : decode b_Mo_procedure 83 = .ok (.if_icmp .ne 93, 3) := by decide +kernel
theorem d_Mo_procedure_86 : decode b_Mo_procedure 86 = .ok (.aload_n 0, 1) := by decide +kernel
theorem d_Mo_procedure_87 : decode b_Mo_procedure 87 = .ok (.invokevirtual 117, 3) := by decide +kernel
theorem d_Mo_procedure_90 : decode b_Mo_procedure 90 = .ok (.iconst 1, 1) := by decide +kernel
theorem d_Mo_procedure_91 : decode b_Mo_procedure 91 = .ok (.istore_n 3, 1) := by decide +kernel
theorem d_Mo_procedure_92 : decode b_Mo_procedure 92 = .ok (.iconst 0, 1) := by decide +kernel
theorem d_Mo_procedure_93 : decode b_Mo_procedure 93 = .ok (.istore 4, 2) := by decide +kernel
theorem d_Mo_procedure_95 : decode b_Mo_procedure 95 = .ok (.iload 4, 2) := by decide +kernel
theorem d_Mo_procedure_97 : decode b_Mo_procedure 97 = .ok (.iconst 3, 1) := by decide +kernel
theorem d_Mo_procedure_98 : decode b_Mo_procedure 98 = .ok (.if_icmp .ge 65, 3) := by decide +kernel
theorem d_Mo_procedure_101 : decode b_Mo_procedure 101 = .ok (.iload_n 3, 1) := by decide +kernel
theorem d_Mo_procedure_102 : decode b_Mo_procedure 102 = .ok (.ifCond .eq 61, 3) := by decide +kernel
theorem d_Mo_procedure_105 : decode b_Mo_procedure 105 = .ok (.aload_n 0, 1) := by decide +kernel
theorem d_Mo_procedure_106 : decode b_Mo_procedure 106 = .ok (.getfield 111, 3) := by decide +kernel
theorem d_Mo_procedure_109 : decode b_Mo_procedure 109 = .ok (.ifCond .ne 54, 3) := by decide +kernel
theorem d_Mo_procedure_112 : decode b_Mo_procedure 112 = .ok (.aload_n 0, 1) := by decide +kernel
theorem d_Mo_procedure_113 : decode b_Mo_procedure 113 = .ok (.iconst 0, 1) := by decide +kernel
theorem d_Mo_procedure_114 : decode b_Mo_procedure 114 = .ok (.iconst 0, 1) := by decide +kernel
theorem d_Mo_procedure_115 : decode b_Mo_procedure 115 = .ok (.iconst 0, 1) := by decide +kernel
theorem d_Mo_procedure_116 : decode b_Mo_procedure 116 = .ok (.invokevirtual 145, 3) := by decide +kernel
theorem d_Mo_procedure_119 : decode b_Mo_procedure 119 = .ok (.iinc 2 1, 3) := by decide +kernel
theorem d_Mo_procedure_122 : decode b_Mo_procedure 122 = .ok (.aload_n 0, 1) := by decide +kernel
theorem d_Mo_procedure_123 : decode b_Mo_procedure 123 = .ok (.getfield 111, 3) := by decide +kernel
theorem d_Mo_procedure_126 : decode b_Mo_procedure 126 = .ok (.ifCond .ne 21, 3) := by decide +kernel
theorem d_Mo_procedure_129 : decode b_Mo_procedure 129 = .ok (.aload_n 0, 1) := by decide +kernel
theorem d_Mo_procedure_130 : decode b_Mo_procedure 130 = .ok (.getfield 88, 3) := by decide +kernel
theorem d_Mo_procedure_133 : decode b_Mo_procedure 133 = .ok (.bipush 44, 2) := by decide +kernel
theorem d_Mo_procedure_135 : decode b_Mo_procedure 135 = .ok (.if_icmp .ne 12, 3) := by decide +kernel
theorem d_Mo_procedure_138 : decode b_Mo_procedure 138 = .ok (.iload_n 2, 1) := by decide +kernel
theorem d_Mo_procedure_139 : decode b_Mo_procedure 139 = .ok (.iconst 3, 1) := by decide +kernel
theorem d_Mo_procedure_140 : decode b_Mo_procedure 140 = .ok (.if_icmp .ge 7, 3) := by decide +kernel
theorem d_Mo_procedure_143 : decode b_Mo_procedure 143 = .ok (.iconst 1, 1) := by decide +kernel
theorem d_Mo_procedure_144 : decode b_Mo_procedure 144 = .ok (.goto 4, 3) := by decide +kernel
theorem d_Mo_procedure_147 : decode b_Mo_procedure 147 = .ok (.iconst 0, 1) := by decide +kernel
theorem d_Mo_procedure_148 : decode b_Mo_procedure 148 = .ok (.istore_n 3, 1) := by decide +kernel
theorem d_Mo_procedure_149 : decode b_Mo_procedure 149 = .ok (.iload_n 3, 1) := by decide +kernel
theorem d_Mo_procedure_150 : decode b_Mo_procedure 150 = .ok (.ifCond .eq 7, 3) := by decide +kernel
theorem d_Mo_procedure_153 : decode b_Mo_procedure 153 = .ok (.aload_n 0, 1) := by decide +kernel
theorem d_Mo_procedure_154 : decode b_Mo_procedure 154 = .ok (.invokevirtual 117, 3) := by decide +kernel
theorem d_Mo_procedure_157 : decode b_Mo_procedure 157 = .ok (.iinc 4 1, 3) := by decide +kernel
theorem d_Mo_procedure_160 : decode b_Mo_procedure 160 = .ok (.goto (-65), 3) := by decide +kernel
theorem d_Mo_procedure_163 : decode b_Mo_procedure 163 = .ok (.aload_n 0, 1) := by decide +kernel
theorem d_Mo_procedure_164 : decode b_Mo_procedure 164 = .ok (.getfield 111, 3) := by decide +kernel
theorem d_Mo_procedure_167 : decode b_Mo_procedure 167 = .ok (.ifCond .ne 9, 3) := by decide +kernel
theorem d_Mo_procedure_170 : decode b_Mo_procedure 170 = .ok (.aload_n 0, 1) := by decide +kernel
theorem d_Mo_procedure_171 : decode b_Mo_procedure 171 = .ok (.bipush 41, 2) := by decide +kernel
theorem d_Mo_procedure_173 : decode b_Mo_procedure 173 = .ok (.invokevirtual 149, 3) := by decide +kernel
theorem d_Mo_procedure_176 : decode b_Mo_procedure 176 = .ok (.iconst 0, 1) := by decide +kernel
theorem d_Mo_procedure_177 : decode b_Mo_procedure 177 = .ok (.istore_n 3, 1) := by decide +kernel
theorem d_Mo_procedure_178 : decode b_Mo_procedure 178 = .ok (.iload_n 3, 1) := by decide +kernel
theorem d_Mo_procedure_179 : decode b_Mo_procedure 179 = .ok (.iload_n 2, 1) := by decide +kernel
theorem d_Mo_procedure_180 : decode b_Mo_procedure 180 = .ok (.if_icmp .ge 22, 3) := by decide +kernel
theorem d_Mo_procedure_183 : decode b_Mo_procedure 183 = .ok (.aload_n 0, 1) := by decide +kernel
theorem d_Mo_procedure_184 : decode b_Mo_procedure 184 = .ok (.getfield 39, 3) := by decide +kernel
theorem d_Mo_procedure_187 : decode b_Mo_procedure 187 = .ok (.iload_n 1, 1) := by decide +kernel
theorem d_Mo_procedure_188 : decode b_Mo_procedure 188 = .ok (.iconst 1, 1) := by decide +kernel
theorem d_Mo_procedure_189 : decode b_Mo_procedure 189 = .ok (.iadd, 1) := by decide +kernel
theorem d_Mo_procedure_190 : decode b_Mo_procedure 190 = .ok (.iload_n 3, 1) := by decide +kernel
theorem d_Mo_procedure_191 : decode b_Mo_procedure 191 = .ok (.iadd, 1) := by decide +kernel
theorem d_Mo_procedure_192 : decode b_Mo_procedure 192 = .ok (.iload_n 3, 1) := by decide +kernel
theorem d_Mo_procedure_193 : decode b_Mo_procedure 193 = .ok (.iload_n 2, 1) := by decide +kernel
theorem d_Mo_procedure_194 : decode b_Mo_procedure 194 = .ok (.isub, 1) := by decide +kernel
theorem d_Mo_procedure_195 : decode b_Mo_procedure 195 = .ok (.iastore, 1) := by decide +kernel
theorem d_Mo_procedure_196 : decode b_Mo_procedure 196 = .ok (.iinc 3 1, 3) := by decide +kernel
theorem d_Mo_procedure_199 : decode b_Mo_procedure 199 = .ok (.goto (-21), 3) := by decide +kernel
theorem d_Mo_procedure_202 : decode b_Mo_procedure 202 = .ok (.aload_n 0, 1) := by decide +kernel
theorem d_Mo_procedure_203 : decode b_Mo_procedure 203 = .ok (.getfield 42, 3) := by decide +kernel
theorem d_Mo_procedure_206 : decode b_Mo_procedure 206 = .ok (.iload_n 1, 1) := by decide +kernel
theorem d_Mo_procedure_207 : decode b_Mo_procedure 207 = .ok (.iload_n 2, 1) := by decide +kernel
theorem d_Mo_procedure_208 : decode b_Mo_procedure 208 = .ok (.iastore, 1) := by decide +kernel
theorem d_Mo_procedure_209 : decode b_Mo_procedure 209 = .ok (.aload_n 0, 1) := by decide +kernel
theorem d_Mo_procedure_210 : decode b_Mo_procedure 210 = .ok (.iload_n 2, 1) := by decide +kernel
theorem d_Mo_procedure_211 : decode b_Mo_procedure 211 = .ok (.putfield 159, 3) := by decide +kernel
theorem d_Mo_procedure_214 : decode b_Mo_procedure 214 = .ok (.aload_n 0, 1) := by decide +kernel
theorem d_Mo_procedure_215 : decode b_Mo_procedure 215 = .ok (.getfield 111, 3) := by decide +kernel
theorem d_Mo_procedure_218 : decode b_Mo_procedure 218 = .ok (.ifCond .ne 9, 3) := by decide +kernel
theorem d_Mo_procedure_221 : decode b_Mo_procedure 221 = .ok (.aload_n 0, 1) := by decide +kernel
theorem d_Mo_procedure_222 : decode b_Mo_procedure 222 = .ok (.bipush 59, 2) := by decide +kernel
theorem d_Mo_procedure_224 : decode b_Mo_procedure 224 = .ok (.invokevirtual 149, 3) := by decide +kernel
theorem d_Mo_procedure_227 : decode b_Mo_procedure 227 = .ok (.aload_n 0, 1) := by decide +kernel
theorem d_Mo_procedure_228 : decode b_Mo_procedure 228 = .ok (.iconst 0, 1) := by decide +kernel
theorem d_Mo_procedure_229 : decode b_Mo_procedure 229 = .ok (.iconst 0, 1) := by decide +kernel
theorem d_Mo_procedure_230 : decode b_Mo_procedure 230 = .ok (.iconst 0, 1) := by decide +kernel
theorem d_Mo_procedure_231 : decode b_Mo_procedure 231 = .ok (.invokevirtual 162, 3) := by decide +kernel
theorem d_Mo_procedure_234 : decode b_Mo_procedure 234 = .ok (.return_, 1) := by decide +kernel

def k_procedure_227 (x : nM)  : nM := (m_push x 0 0 0)
def p_procedure_227 (x : nM)  : Prop := o_push x 0 0 0 ∧ True
def k_procedure_178 : Nat → nM → Int32 → Int32 → Int32 → nM
  | 0, x, v1, v2, v3 => x
  | n + 1, x, v1, v2, v3 => (if v2 ≤ v3 then (if x.1 7 = 0 then k_procedure_227 (m_expect (nm_f (nm_a x 20 v1 v2) 23 v2) 59) else k_procedure_227 (nm_f (nm_a x 20 v1 v2) 23 v2)) else k_procedure_178 n (nm_a x 19 ((v1 + 1) + v3) (v3 - v2)) v1 v2 (v3 + 1))
def p_procedure_178 : Nat → nM → Int32 → Int32 → Int32 → Prop
  | 0, _, _, _, _ => False
  | n + 1, x, v1, v2, v3 => ((v2 ≤ v3 → vp_in v1 100 ∧ ((x.1 7 = 0 → o_expect (nm_f (nm_a x 20 v1 v2) 23 v2) 59 ∧ p_procedure_227 (m_expect (nm_f (nm_a x 20 v1 v2) 23 v2) 59)) ∧ (¬ (x.1 7 = 0) → p_procedure_227 (nm_f (nm_a x 20 v1 v2) 23 v2)))) ∧ (¬ (v2 ≤ v3) → vp_in ((v1 + 1) + v3) 100 ∧ p_procedure_178 n (nm_a x 19 ((v1 + 1) + v3) (v3 - v2)) v1 v2 (v3 + 1)))
def k_procedure_176 (x : nM) (v1 : Int32) (v2 : Int32) : nM := k_procedure_178 300 x v1 v2 0
def p_procedure_176 (x : nM) (v1 : Int32) (v2 : Int32) : Prop := p_procedure_178 300 x v1 v2 0
def k_procedure_163 (x : nM) (v1 : Int32) (v2 : Int32) : nM := (if x.1 7 = 0 then k_procedure_176 (m_expect x 41) v1 v2 else k_procedure_176 x v1 v2)
def p_procedure_163 (x : nM) (v1 : Int32) (v2 : Int32) : Prop := ((x.1 7 = 0 → o_expect x 41 ∧ p_procedure_176 (m_expect x 41) v1 v2) ∧ (¬ (x.1 7 = 0) → p_procedure_176 x v1 v2))
def k_procedure_95 : Nat → nM → Int32 → Int32 → Int32 → Int32 → nM
  | 0, x, v1, v2, v3, v4 => x
  | n + 1, x, v1, v2, v3, v4 => (if 3 ≤ v4 then k_procedure_163 x v1 v2 else (if v3 = 0 then k_procedure_163 x v1 v2 else (if x.1 7 = 0 then (if (m_declare x 0 0 0).1 7 = 0 then (if (m_declare x 0 0 0).1 3 = 44 then (if 3 ≤ v2 + 1 then k_procedure_95 n (m_declare x 0 0 0) v1 (v2 + 1) 0 (v4 + 1) else k_procedure_95 n (m_goOn (m_declare x 0 0 0)) v1 (v2 + 1) 1 (v4 + 1)) else k_procedure_95 n (m_declare x 0 0 0) v1 (v2 + 1) 0 (v4 + 1)) else k_procedure_95 n (m_declare x 0 0 0) v1 (v2 + 1) 0 (v4 + 1)) else k_procedure_163 x v1 v2)))
def p_procedure_95 : Nat → nM → Int32 → Int32 → Int32 → Int32 → Prop
  | 0, _, _, _, _, _ => False
  | n + 1, x, v1, v2, v3, v4 => ((3 ≤ v4 → p_procedure_163 x v1 v2) ∧ (¬ (3 ≤ v4) → ((v3 = 0 → p_procedure_163 x v1 v2) ∧ (¬ (v3 = 0) → ((x.1 7 = 0 → o_declare x 0 0 0 ∧ (((m_declare x 0 0 0).1 7 = 0 → (((m_declare x 0 0 0).1 3 = 44 → ((3 ≤ v2 + 1 → p_procedure_95 n (m_declare x 0 0 0) v1 (v2 + 1) 0 (v4 + 1)) ∧ (¬ (3 ≤ v2 + 1) → o_goOn (m_declare x 0 0 0) ∧ p_procedure_95 n (m_goOn (m_declare x 0 0 0)) v1 (v2 + 1) 1 (v4 + 1)))) ∧ (¬ ((m_declare x 0 0 0).1 3 = 44) → p_procedure_95 n (m_declare x 0 0 0) v1 (v2 + 1) 0 (v4 + 1)))) ∧ (¬ ((m_declare x 0 0 0).1 7 = 0) → p_procedure_95 n (m_declare x 0 0 0) v1 (v2 + 1) 0 (v4 + 1)))) ∧ (¬ (x.1 7 = 0) → p_procedure_163 x v1 v2))))))
def m_procedure (x : nM)  : nM := (if x.1 21 = 4 then (m_fail x 6 (x.1 4)) else (if (m_push (m_declare (m_goOn x) 2 ((m_goOn x).1 25) 0) 3 ((m_declare (m_goOn x) 2 ((m_goOn x).1 25) 0).1 15) ((m_declare (m_goOn x) 2 ((m_goOn x).1 25) 0).1 22)).1 7 = 0 then (if (m_push (m_declare (m_goOn x) 2 ((m_goOn x).1 25) 0) 3 ((m_declare (m_goOn x) 2 ((m_goOn x).1 25) 0).1 15) ((m_declare (m_goOn x) 2 ((m_goOn x).1 25) 0).1 22)).1 3 = 40 then k_procedure_95 300 (m_goOn (nm_f (nm_f (m_push (m_declare (m_goOn x) 2 ((m_goOn x).1 25) 0) 3 ((m_declare (m_goOn x) 2 ((m_goOn x).1 25) 0).1 15) ((m_declare (m_goOn x) 2 ((m_goOn x).1 25) 0).1 22)) 21 (((m_push (m_declare (m_goOn x) 2 ((m_goOn x).1 25) 0) 3 ((m_declare (m_goOn x) 2 ((m_goOn x).1 25) 0).1 15) ((m_declare (m_goOn x) 2 ((m_goOn x).1 25) 0).1 22)).1 21) + 1)) 22 3)) (((m_declare (m_goOn x) 2 ((m_goOn x).1 25) 0).1 15) - 1) 0 1 0 else k_procedure_176 (nm_f (nm_f (m_push (m_declare (m_goOn x) 2 ((m_goOn x).1 25) 0) 3 ((m_declare (m_goOn x) 2 ((m_goOn x).1 25) 0).1 15) ((m_declare (m_goOn x) 2 ((m_goOn x).1 25) 0).1 22)) 21 (((m_push (m_declare (m_goOn x) 2 ((m_goOn x).1 25) 0) 3 ((m_declare (m_goOn x) 2 ((m_goOn x).1 25) 0).1 15) ((m_declare (m_goOn x) 2 ((m_goOn x).1 25) 0).1 22)).1 21) + 1)) 22 3) (((m_declare (m_goOn x) 2 ((m_goOn x).1 25) 0).1 15) - 1) 0) else k_procedure_176 (nm_f (nm_f (m_push (m_declare (m_goOn x) 2 ((m_goOn x).1 25) 0) 3 ((m_declare (m_goOn x) 2 ((m_goOn x).1 25) 0).1 15) ((m_declare (m_goOn x) 2 ((m_goOn x).1 25) 0).1 22)) 21 (((m_push (m_declare (m_goOn x) 2 ((m_goOn x).1 25) 0) 3 ((m_declare (m_goOn x) 2 ((m_goOn x).1 25) 0).1 15) ((m_declare (m_goOn x) 2 ((m_goOn x).1 25) 0).1 22)).1 21) + 1)) 22 3) (((m_declare (m_goOn x) 2 ((m_goOn x).1 25) 0).1 15) - 1) 0))
def o_procedure (x : nM)  : Prop := ((x.1 21 = 4 → True) ∧ (¬ (x.1 21 = 4) → o_goOn x ∧ o_declare (m_goOn x) 2 ((m_goOn x).1 25) 0 ∧ o_push (m_declare (m_goOn x) 2 ((m_goOn x).1 25) 0) 3 ((m_declare (m_goOn x) 2 ((m_goOn x).1 25) 0).1 15) ((m_declare (m_goOn x) 2 ((m_goOn x).1 25) 0).1 22) ∧ (((m_push (m_declare (m_goOn x) 2 ((m_goOn x).1 25) 0) 3 ((m_declare (m_goOn x) 2 ((m_goOn x).1 25) 0).1 15) ((m_declare (m_goOn x) 2 ((m_goOn x).1 25) 0).1 22)).1 7 = 0 → (((m_push (m_declare (m_goOn x) 2 ((m_goOn x).1 25) 0) 3 ((m_declare (m_goOn x) 2 ((m_goOn x).1 25) 0).1 15) ((m_declare (m_goOn x) 2 ((m_goOn x).1 25) 0).1 22)).1 3 = 40 → o_goOn (nm_f (nm_f (m_push (m_declare (m_goOn x) 2 ((m_goOn x).1 25) 0) 3 ((m_declare (m_goOn x) 2 ((m_goOn x).1 25) 0).1 15) ((m_declare (m_goOn x) 2 ((m_goOn x).1 25) 0).1 22)) 21 (((m_push (m_declare (m_goOn x) 2 ((m_goOn x).1 25) 0) 3 ((m_declare (m_goOn x) 2 ((m_goOn x).1 25) 0).1 15) ((m_declare (m_goOn x) 2 ((m_goOn x).1 25) 0).1 22)).1 21) + 1)) 22 3) ∧ p_procedure_95 300 (m_goOn (nm_f (nm_f (m_push (m_declare (m_goOn x) 2 ((m_goOn x).1 25) 0) 3 ((m_declare (m_goOn x) 2 ((m_goOn x).1 25) 0).1 15) ((m_declare (m_goOn x) 2 ((m_goOn x).1 25) 0).1 22)) 21 (((m_push (m_declare (m_goOn x) 2 ((m_goOn x).1 25) 0) 3 ((m_declare (m_goOn x) 2 ((m_goOn x).1 25) 0).1 15) ((m_declare (m_goOn x) 2 ((m_goOn x).1 25) 0).1 22)).1 21) + 1)) 22 3)) (((m_declare (m_goOn x) 2 ((m_goOn x).1 25) 0).1 15) - 1) 0 1 0) ∧ (¬ ((m_push (m_declare (m_goOn x) 2 ((m_goOn x).1 25) 0) 3 ((m_declare (m_goOn x) 2 ((m_goOn x).1 25) 0).1 15) ((m_declare (m_goOn x) 2 ((m_goOn x).1 25) 0).1 22)).1 3 = 40) → p_procedure_176 (nm_f (nm_f (m_push (m_declare (m_goOn x) 2 ((m_goOn x).1 25) 0) 3 ((m_declare (m_goOn x) 2 ((m_goOn x).1 25) 0).1 15) ((m_declare (m_goOn x) 2 ((m_goOn x).1 25) 0).1 22)) 21 (((m_push (m_declare (m_goOn x) 2 ((m_goOn x).1 25) 0) 3 ((m_declare (m_goOn x) 2 ((m_goOn x).1 25) 0).1 15) ((m_declare (m_goOn x) 2 ((m_goOn x).1 25) 0).1 22)).1 21) + 1)) 22 3) (((m_declare (m_goOn x) 2 ((m_goOn x).1 25) 0).1 15) - 1) 0))) ∧ (¬ ((m_push (m_declare (m_goOn x) 2 ((m_goOn x).1 25) 0) 3 ((m_declare (m_goOn x) 2 ((m_goOn x).1 25) 0).1 15) ((m_declare (m_goOn x) 2 ((m_goOn x).1 25) 0).1 22)).1 7 = 0) → p_procedure_176 (nm_f (nm_f (m_push (m_declare (m_goOn x) 2 ((m_goOn x).1 25) 0) 3 ((m_declare (m_goOn x) 2 ((m_goOn x).1 25) 0).1 15) ((m_declare (m_goOn x) 2 ((m_goOn x).1 25) 0).1 22)) 21 (((m_push (m_declare (m_goOn x) 2 ((m_goOn x).1 25) 0) 3 ((m_declare (m_goOn x) 2 ((m_goOn x).1 25) 0).1 15) ((m_declare (m_goOn x) 2 ((m_goOn x).1 25) 0).1 22)).1 21) + 1)) 22 3) (((m_declare (m_goOn x) 2 ((m_goOn x).1 25) 0).1 15) - 1) 0))))
set_option maxHeartbeats 4000000 in
set_option maxRecDepth 100000 in
theorem t_procedure (l : Launch) (G : nn_G) (sz : Nat) (mo : Nat) (ad : Nat → Nat) (x : nM)  (hk : o_procedure x) : Met l y_Mo_procedure w_Mo_procedure ({ frames := 4, cells := 0, slots := 0, locals := 88 }) (nn_P G [.ref mo] (nm_W G mo ad x) sz) (nm_Qv G mo ad (m_procedure x) (va_A (nm_W G mo ad x) sz)) 0 0 (va_A (nm_W G mo ad x) sz) := by
  refine Met.ofW (cc := b_Mo_procedure) (maxL := 5) (ret := none) (by decide) rfl ?_
  intro p e s m args below meth c s₁ B hml hv
  obtain ⟨rfl, hsz, hP, hK, hD0, hN⟩ := hv
  have hx := B.exec
  have hb := B.bytes
  have hr := B.returns
  have hts := atoms_spec (ws := w_Mo_procedure) B.pre
  have hg : ∀ w ∈ nn_gw, w.before _ s = true := fun w h => hts w (List.mem_cons_of_mem _ h)
  have hown : s.vm.findClass R_Mo = some m.cls := findClass_of_methodNamed B.named
  subst hsz
  have hD := hD0.self (sz := s.heap.size)
  generalize hAe : va_A (nm_W G mo ad x) s.heap.size = A at hD ⊢
  have hA : ∀ q : Nat, s.heap.size ≤ q → A q := fun q h => by rw [← hAe]; exact Or.inr h
  clear hAe
  have hS : va_S A s.heap s.heap [] := va_S.rf
  have hP : va_P G.1 nn_cls (nm_W G mo ad x) s.heap := hP
  have hl := lv_entry ([.ref mo]) (n := 5) (Nat.le_of_ble_eq_true rfl)
  rw [lg_entry_eq]
  generalize (lg_sl ([.ref mo]) ++ List.replicate (5 - (lg_sl ([.ref mo])).length) Slot.unset).toArray = ls at hl ⊢
  have hl : lv_has ls 5 [(0, .ref mo)] := hl
  have J227 : ∀ (x : nM)  (ls : Array Slot) (H : Heap) (locs : List Loc), p_procedure_227 x → lv_has ls 5 [(0, .ref mo)] → va_P G.1 nn_cls (nm_W G mo ad x) H → va_D A (nm_W G mo ad x) → va_S A s.heap H locs → W p l e (headSpec w_Mo_procedure ({ frames := 4, cells := 0, slots := 0, locals := 88 })).room s m [.ref mo].toArray below meth c H locs 0 0 (MQ below (nm_Qv G mo ad (k_procedure_227 x) A) [.ref mo].toArray s 0 0 A) (F0 m 227 ls []) := by
    intro x  ls H locs hk hl hP hD hS
    unfold p_procedure_227 at hk
    refine lv_aload_n hx hb d_Mo_procedure_227 rfl (lv_at hl 0 rfl) ?_
    refine lv_iconst (v := 0) hx hb d_Mo_procedure_228 (by decide) ?_
    refine lv_iconst (v := 0) hx hb d_Mo_procedure_229 (by decide) ?_
    refine lv_iconst (v := 0) hx hb d_Mo_procedure_230 (by decide) ?_
    obtain ⟨hi, hk⟩ := hk
    have hFc := nm_free hD hS hA
    refine va_callv (va_runV (As := [.int 0, .int 0, .int 0]) (rest := []) ⟨hx, hb, hml, hown, hts⟩ (t_push l G _ mo ad x 0 0 0 hi) (cwV 3 hts (nn_gV mw_1028 mw_1025 mw_1027 mw_46 mw_94) rfl rfl rfl (by decide +kernel) ⟨Nat.le_of_ble_eq_true rfl, Nat.le_of_ble_eq_true rfl⟩) (nn_preV (va_recv hK hP rfl (q0 := 0) rfl) hP hD hK hN) rfl rfl hl.1 rfl (lv_room (Nat.le_of_ble_eq_true rfl)) d_Mo_procedure_231 ⟨Nat.le_of_ble_eq_true rfl, Nat.le_of_ble_eq_true rfl⟩) hS (fun q _ h => hFc q h) hFc (fun u t H locs ht hvm hw hB hz1 hk1 hS => ?_)
    obtain ⟨hP1, hD1⟩ := hB
    rw [ht] at hP1
    have hP := hP1
    have hD := hD1.weaken (fun _ _ _ h => hFc _ h)
    have hR : k_procedure_227 x = m_push x 0 0 0 := by rw [k_procedure_227]
    refine nm_W1 hR ?_
    exact W.vret hx hb hr (fun t ht hW => ⟨⟨(), rfl, trivial, ⟨by rw [ht]; exact hP, hD⟩⟩, hS.F ht⟩) hS.2.2 d_Mo_procedure_234
  have J178 : ∀ (n : Nat) (x : nM) (v1 : Int32) (v2 : Int32) (v3 : Int32) (ls : Array Slot) (H : Heap) (locs : List Loc), p_procedure_178 n x v1 v2 v3 → lv_has ls 5 [(0, .ref mo), (1, .int v1), (2, .int v2), (3, .int v3)] → va_P G.1 nn_cls (nm_W G mo ad x) H → va_D A (nm_W G mo ad x) → va_S A s.heap H locs → W p l e (headSpec w_Mo_procedure ({ frames := 4, cells := 0, slots := 0, locals := 88 })).room s m [.ref mo].toArray below meth c H locs 0 0 (MQ below (nm_Qv G mo ad (k_procedure_178 n x v1 v2 v3) A) [.ref mo].toArray s 0 0 A) (F0 m 178 ls []) := by
    intro n
    induction n with
    | zero =>
      intro x v1 v2 v3 ls H locs hk
      exact (show False from hk).elim
    | succ n ih =>
      intro x v1 v2 v3 ls H locs hk hl hP hD hS
      unfold p_procedure_178 at hk
      refine lv_iload_n hx hb d_Mo_procedure_178 rfl (lv_at hl 3 rfl) ?_
      refine lv_iload_n hx hb d_Mo_procedure_179 rfl (lv_at hl 2 rfl) ?_
      refine lv_icmp_ge (tgt := 202) hx hb d_Mo_procedure_180 rfl (fun hc180 => ?_) (fun hc180 => ?_)
      · skip
        have hk := hk.1 hc180
        refine lv_aload_n hx hb d_Mo_procedure_202 rfl (lv_at hl 0 rfl) ?_
        refine nm_getA hx hb hg hown hK hP 20 (by decide) (by decide) (hg _ mw_910) d_Mo_procedure_203 ?_
        refine lv_iload_n hx hb d_Mo_procedure_206 rfl (lv_at hl 1 rfl) ?_
        refine lv_iload_n hx hb d_Mo_procedure_207 rfl (lv_at hl 2 rfl) ?_
        obtain ⟨hi, hk⟩ := hk
        refine nm_st hx hb hK hP hD hS 20 8 rfl (by decide) hi d_Mo_procedure_208 (fun H locs hP hD hS => ?_)
        refine lv_aload_n hx hb d_Mo_procedure_209 rfl (lv_at hl 0 rfl) ?_
        refine lv_iload_n hx hb d_Mo_procedure_210 rfl (lv_at hl 2 rfl) ?_
        refine nm_put hx hb hg hown hK hP hD hS 23 (by decide) (by decide) (by decide) (hg _ mw_913) d_Mo_procedure_211 (fun H locs hP hD hS => ?_)
        refine lv_aload_n hx hb d_Mo_procedure_214 rfl (lv_at hl 0 rfl) ?_
        refine nm_get hx hb hg hown hK hP 7 (by decide) (by decide) (hg _ mw_897) d_Mo_procedure_215 ?_
        refine nb_top (x.1 7) rfl ?_
        refine lv_if_ne (tgt := 227) hx hb d_Mo_procedure_218 rfl (fun hc218 => ?_) (fun hc218 => ?_)
        · skip
          have hk := hk.2 hc218
          have hl := lv_sub (l' := [(0, .ref mo)]) hl [0] rfl
          have hR : k_procedure_178 (n + 1) x v1 v2 v3 = k_procedure_227 (nm_f (nm_a x 20 v1 v2) 23 v2) := by rw [k_procedure_178]; rw [if_pos hc180]; rw [if_neg hc218]
          exact nm_W1 hR (J227 (nm_f (nm_a x 20 v1 v2) 23 v2) ls _ _ hk hl hP hD hS)
        · skip
          have hk := hk.1 hc218
          refine lv_aload_n hx hb d_Mo_procedure_221 rfl (lv_at hl 0 rfl) ?_
          refine lv_bipush (v := 59) hx hb d_Mo_procedure_222 (by decide) ?_
          obtain ⟨hi, hk⟩ := hk
          have hFc := nm_free hD hS hA
          refine va_callv (va_runV (As := [.int 59]) (rest := []) ⟨hx, hb, hml, hown, hts⟩ (t_expect l G _ mo ad (nm_f (nm_a x 20 v1 v2) 23 v2) 59 hi) (cwV 1 hts (nn_gV mw_1084 mw_1081 mw_1083 mw_57 mw_94) rfl rfl rfl (by decide +kernel) ⟨Nat.le_of_ble_eq_true rfl, Nat.le_of_ble_eq_true rfl⟩) (nn_preV (va_recv hK hP rfl (q0 := 0) rfl) hP hD hK hN) rfl rfl hl.1 rfl (lv_room (Nat.le_of_ble_eq_true rfl)) d_Mo_procedure_224 ⟨Nat.le_of_ble_eq_true rfl, Nat.le_of_ble_eq_true rfl⟩) hS (fun q _ h => hFc q h) hFc (fun u t H locs ht hvm hw hB hz1 hk1 hS => ?_)
          obtain ⟨hP1, hD1⟩ := hB
          rw [ht] at hP1
          have hP := hP1
          have hD := hD1.weaken (fun _ _ _ h => hFc _ h)
          have hl := lv_sub (l' := [(0, .ref mo)]) hl [0] rfl
          have hR : k_procedure_178 (n + 1) x v1 v2 v3 = k_procedure_227 (m_expect (nm_f (nm_a x 20 v1 v2) 23 v2) 59) := by rw [k_procedure_178]; rw [if_pos hc180]; rw [if_pos hc218]
          exact nm_W1 hR (J227 (m_expect (nm_f (nm_a x 20 v1 v2) 23 v2) 59) ls _ _ hk hl hP hD hS)
      · skip
        have hk := hk.2 hc180
        refine lv_aload_n hx hb d_Mo_procedure_183 rfl (lv_at hl 0 rfl) ?_
        refine nm_getA hx hb hg hown hK hP 19 (by decide) (by decide) (hg _ mw_909) d_Mo_procedure_184 ?_
        refine lv_iload_n hx hb d_Mo_procedure_187 rfl (lv_at hl 1 rfl) ?_
        refine lv_iconst (v := 1) hx hb d_Mo_procedure_188 (by decide) ?_
        refine lv_iadd hx hb d_Mo_procedure_189 ?_
        refine lv_iload_n hx hb d_Mo_procedure_190 rfl (lv_at hl 3 rfl) ?_
        refine lv_iadd hx hb d_Mo_procedure_191 ?_
        refine lv_iload_n hx hb d_Mo_procedure_192 rfl (lv_at hl 3 rfl) ?_
        refine lv_iload_n hx hb d_Mo_procedure_193 rfl (lv_at hl 2 rfl) ?_
        refine lv_isub hx hb d_Mo_procedure_194 ?_
        obtain ⟨hi, hk⟩ := hk
        refine nm_st hx hb hK hP hD hS 19 7 rfl (by decide) hi d_Mo_procedure_195 (fun H locs hP hD hS => ?_)
        refine lv_iinc (k := 3) (v := v3 + 1) (lv' := [(3, .int (v3 + 1)), (0, .ref mo), (1, .int v1), (2, .int v2)]) hx hb d_Mo_procedure_196 hl rfl (rfl) (by decide) rfl (fun ls hl => ?_)
        refine lv_goto (tgt := 178) hx hb d_Mo_procedure_199 rfl ?_
        have hl := lv_sub (l' := [(0, .ref mo), (1, .int v1), (2, .int v2), (3, .int (v3 + 1))]) hl [1, 2, 3, 0] rfl
        have hR : k_procedure_178 (n + 1) x v1 v2 v3 = k_procedure_178 n (nm_a x 19 ((v1 + 1) + v3) (v3 - v2)) v1 v2 (v3 + 1) := by rw [k_procedure_178]; rw [if_neg hc180]
        exact nm_W1 hR (ih (nm_a x 19 ((v1 + 1) + v3) (v3 - v2)) v1 v2 (v3 + 1) ls _ _ hk hl hP hD hS)
  have J176 : ∀ (x : nM) (v1 : Int32) (v2 : Int32) (ls : Array Slot) (H : Heap) (locs : List Loc), p_procedure_176 x v1 v2 → lv_has ls 5 [(0, .ref mo), (1, .int v1), (2, .int v2)] → va_P G.1 nn_cls (nm_W G mo ad x) H → va_D A (nm_W G mo ad x) → va_S A s.heap H locs → W p l e (headSpec w_Mo_procedure ({ frames := 4, cells := 0, slots := 0, locals := 88 })).room s m [.ref mo].toArray below meth c H locs 0 0 (MQ below (nm_Qv G mo ad (k_procedure_176 x v1 v2) A) [.ref mo].toArray s 0 0 A) (F0 m 176 ls []) := by
    intro x v1 v2 ls H locs hk hl hP hD hS
    unfold p_procedure_176 at hk
    refine lv_iconst (v := 0) hx hb d_Mo_procedure_176 (by decide) ?_
    refine lv_istore_n (lv' := [(3, .int 0), (0, .ref mo), (1, .int v1), (2, .int v2)]) hx hb d_Mo_procedure_177 rfl hl (by decide) rfl (fun ls hl => ?_)
    have hl := lv_sub (l' := [(0, .ref mo), (1, .int v1), (2, .int v2), (3, .int 0)]) hl [1, 2, 3, 0] rfl
    have hR : k_procedure_176 x v1 v2 = k_procedure_178 300 x v1 v2 0 := by rw [k_procedure_176]
    exact nm_W1 hR (J178 300 x v1 v2 0 ls _ _ hk hl hP hD hS)
  have J163 : ∀ (x : nM) (v1 : Int32) (v2 : Int32) (ls : Array Slot) (H : Heap) (locs : List Loc), p_procedure_163 x v1 v2 → lv_has ls 5 [(0, .ref mo), (1, .int v1), (2, .int v2)] → va_P G.1 nn_cls (nm_W G mo ad x) H → va_D A (nm_W G mo ad x) → va_S A s.heap H locs → W p l e (headSpec w_Mo_procedure ({ frames := 4, cells := 0, slots := 0, locals := 88 })).room s m [.ref mo].toArray below meth c H locs 0 0 (MQ below (nm_Qv G mo ad (k_procedure_163 x v1 v2) A) [.ref mo].toArray s 0 0 A) (F0 m 163 ls []) := by
    intro x v1 v2 ls H locs hk hl hP hD hS
    unfold p_procedure_163 at hk
    refine lv_aload_n hx hb d_Mo_procedure_163 rfl (lv_at hl 0 rfl) ?_
    refine nm_get hx hb hg hown hK hP 7 (by decide) (by decide) (hg _ mw_897) d_Mo_procedure_164 ?_
    refine lv_if_ne (tgt := 176) hx hb d_Mo_procedure_167 rfl (fun hc167 => ?_) (fun hc167 => ?_)
    · skip
      have hk := hk.2 hc167
      have hl := lv_sub (l' := [(0, .ref mo), (1, .int v1), (2, .int v2)]) hl [0, 1, 2] rfl
      have hR : k_procedure_163 x v1 v2 = k_procedure_176 x v1 v2 := by rw [k_procedure_163]; rw [if_neg hc167]
      exact nm_W1 hR (J176 x v1 v2 ls _ _ hk hl hP hD hS)
    · skip
      have hk := hk.1 hc167
      refine lv_aload_n hx hb d_Mo_procedure_170 rfl (lv_at hl 0 rfl) ?_
      refine lv_bipush (v := 41) hx hb d_Mo_procedure_171 (by decide) ?_
      obtain ⟨hi, hk⟩ := hk
      have hFc := nm_free hD hS hA
      refine va_callv (va_runV (As := [.int 41]) (rest := []) ⟨hx, hb, hml, hown, hts⟩ (t_expect l G _ mo ad x 41 hi) (cwV 1 hts (nn_gV mw_1084 mw_1081 mw_1083 mw_57 mw_94) rfl rfl rfl (by decide +kernel) ⟨Nat.le_of_ble_eq_true rfl, Nat.le_of_ble_eq_true rfl⟩) (nn_preV (va_recv hK hP rfl (q0 := 0) rfl) hP hD hK hN) rfl rfl hl.1 rfl (lv_room (Nat.le_of_ble_eq_true rfl)) d_Mo_procedure_173 ⟨Nat.le_of_ble_eq_true rfl, Nat.le_of_ble_eq_true rfl⟩) hS (fun q _ h => hFc q h) hFc (fun u t H locs ht hvm hw hB hz1 hk1 hS => ?_)
      obtain ⟨hP1, hD1⟩ := hB
      rw [ht] at hP1
      have hP := hP1
      have hD := hD1.weaken (fun _ _ _ h => hFc _ h)
      have hl := lv_sub (l' := [(0, .ref mo), (1, .int v1), (2, .int v2)]) hl [0, 1, 2] rfl
      have hR : k_procedure_163 x v1 v2 = k_procedure_176 (m_expect x 41) v1 v2 := by rw [k_procedure_163]; rw [if_pos hc167]
      exact nm_W1 hR (J176 (m_expect x 41) v1 v2 ls _ _ hk hl hP hD hS)
  have J95 : ∀ (n : Nat) (x : nM) (v1 : Int32) (v2 : Int32) (v3 : Int32) (v4 : Int32) (ls : Array Slot) (H : Heap) (locs : List Loc), p_procedure_95 n x v1 v2 v3 v4 → lv_has ls 5 [(0, .ref mo), (1, .int v1), (2, .int v2), (3, .int v3), (4, .int v4)] → va_P G.1 nn_cls (nm_W G mo ad x) H → va_D A (nm_W G mo ad x) → va_S A s.heap H locs → W p l e (headSpec w_Mo_procedure ({ frames := 4, cells := 0, slots := 0, locals := 88 })).room s m [.ref mo].toArray below meth c H locs 0 0 (MQ below (nm_Qv G mo ad (k_procedure_95 n x v1 v2 v3 v4) A) [.ref mo].toArray s 0 0 A) (F0 m 95 ls []) := by
    intro n
    induction n with
    | zero =>
      intro x v1 v2 v3 v4 ls H locs hk
      exact (show False from hk).elim
    | succ n ih =>
      intro x v1 v2 v3 v4 ls H locs hk hl hP hD hS
      unfold p_procedure_95 at hk
      refine lv_iload hx hb d_Mo_procedure_95 (lv_at hl 4 rfl) ?_
      refine lv_iconst (v := 3) hx hb d_Mo_procedure_97 (by decide) ?_
      refine lv_icmp_ge (tgt := 163) hx hb d_Mo_procedure_98 rfl (fun hc98 => ?_) (fun hc98 => ?_)
      · skip
        have hk := hk.1 hc98
        have hl := lv_sub (l' := [(0, .ref mo), (1, .int v1), (2, .int v2)]) hl [0, 1, 2] rfl
        have hR : k_procedure_95 (n + 1) x v1 v2 v3 v4 = k_procedure_163 x v1 v2 := by rw [k_procedure_95]; rw [if_pos hc98]
        exact nm_W1 hR (J163 x v1 v2 ls _ _ hk hl hP hD hS)
      · skip
        have hk := hk.2 hc98
        refine lv_iload_n hx hb d_Mo_procedure_101 rfl (lv_at hl 3 rfl) ?_
        refine lv_if_eq (tgt := 163) hx hb d_Mo_procedure_102 rfl (fun hc102 => ?_) (fun hc102 => ?_)
        · skip
          have hk := hk.1 hc102
          have hl := lv_sub (l' := [(0, .ref mo), (1, .int v1), (2, .int v2)]) hl [0, 1, 2] rfl
          have hR : k_procedure_95 (n + 1) x v1 v2 v3 v4 = k_procedure_163 x v1 v2 := by rw [k_procedure_95]; rw [if_neg hc98]; rw [if_pos hc102]
          exact nm_W1 hR (J163 x v1 v2 ls _ _ hk hl hP hD hS)
        · skip
          have hk := hk.2 hc102
          refine lv_aload_n hx hb d_Mo_procedure_105 rfl (lv_at hl 0 rfl) ?_
          refine nm_get hx hb hg hown hK hP 7 (by decide) (by decide) (hg _ mw_897) d_Mo_procedure_106 ?_
          refine lv_if_ne (tgt := 163) hx hb d_Mo_procedure_109 rfl (fun hc109 => ?_) (fun hc109 => ?_)
          · skip
            have hk := hk.2 hc109
            have hl := lv_sub (l' := [(0, .ref mo), (1, .int v1), (2, .int v2)]) hl [0, 1, 2] rfl
            have hR : k_procedure_95 (n + 1) x v1 v2 v3 v4 = k_procedure_163 x v1 v2 := by rw [k_procedure_95]; rw [if_neg hc98]; rw [if_neg hc102]; rw [if_neg hc109]
            exact nm_W1 hR (J163 x v1 v2 ls _ _ hk hl hP hD hS)
          · skip
            have hk := hk.1 hc109
            refine lv_aload_n hx hb d_Mo_procedure_112 rfl (lv_at hl 0 rfl) ?_
            refine lv_iconst (v := 0) hx hb d_Mo_procedure_113 (by decide) ?_
            refine lv_iconst (v := 0) hx hb d_Mo_procedure_114 (by decide) ?_
            refine lv_iconst (v := 0) hx hb d_Mo_procedure_115 (by decide) ?_
            obtain ⟨hi, hk⟩ := hk
            have hFc := nm_free hD hS hA
            refine va_callv (va_runV (As := [.int 0, .int 0, .int 0]) (rest := []) ⟨hx, hb, hml, hown, hts⟩ (t_declare l G _ mo ad x 0 0 0 hi) (cwV 3 hts (nn_gV mw_1072 mw_1069 mw_1071 mw_54 mw_94) rfl rfl rfl (by decide +kernel) ⟨Nat.le_of_ble_eq_true rfl, Nat.le_of_ble_eq_true rfl⟩) (nn_preV (va_recv hK hP rfl (q0 := 0) rfl) hP hD hK hN) rfl rfl hl.1 rfl (lv_room (Nat.le_of_ble_eq_true rfl)) d_Mo_procedure_116 ⟨Nat.le_of_ble_eq_true rfl, Nat.le_of_ble_eq_true rfl⟩) hS (fun q _ h => hFc q h) hFc (fun u t H locs ht hvm hw hB hz1 hk1 hS => ?_)
            obtain ⟨hP1, hD1⟩ := hB
            rw [ht] at hP1
            have hP := hP1
            have hD := hD1.weaken (fun _ _ _ h => hFc _ h)
            refine lv_iinc (k := 2) (v := v2 + 1) (lv' := [(2, .int (v2 + 1)), (0, .ref mo), (1, .int v1), (3, .int v3), (4, .int v4)]) hx hb d_Mo_procedure_119 hl rfl (rfl) (by decide) rfl (fun ls hl => ?_)
            refine lv_aload_n hx hb d_Mo_procedure_122 rfl (lv_at hl 1 rfl) ?_
            refine nm_get hx hb hg hown hK hP 7 (by decide) (by decide) (hg _ mw_897) d_Mo_procedure_123 ?_
            refine lv_if_ne (tgt := 147) hx hb d_Mo_procedure_126 rfl (fun hc126 => ?_) (fun hc126 => ?_)
            · skip
              have hk := hk.2 hc126
              refine lv_iconst (v := 0) hx hb d_Mo_procedure_147 (by decide) ?_
              refine lv_istore_n (lv' := [(3, .int 0), (2, .int (v2 + 1)), (0, .ref mo), (1, .int v1), (4, .int v4)]) hx hb d_Mo_procedure_148 rfl hl (by decide) rfl (fun ls hl => ?_)
              refine lv_iload_n hx hb d_Mo_procedure_149 rfl (lv_at hl 0 rfl) ?_
              refine lv_if_eq (tgt := 157) hx hb d_Mo_procedure_150 rfl (fun _ => ?_) (fun h => absurd (by decide) h)
              refine lv_iinc (k := 4) (v := v4 + 1) (lv' := [(4, .int (v4 + 1)), (3, .int 0), (2, .int (v2 + 1)), (0, .ref mo), (1, .int v1)]) hx hb d_Mo_procedure_157 hl rfl (rfl) (by decide) rfl (fun ls hl => ?_)
              refine lv_goto (tgt := 95) hx hb d_Mo_procedure_160 rfl ?_
              have hl := lv_sub (l' := [(0, .ref mo), (1, .int v1), (2, .int (v2 + 1)), (3, .int 0), (4, .int (v4 + 1))]) hl [3, 4, 2, 1, 0] rfl
              have hR : k_procedure_95 (n + 1) x v1 v2 v3 v4 = k_procedure_95 n (m_declare x 0 0 0) v1 (v2 + 1) 0 (v4 + 1) := by rw [k_procedure_95]; rw [if_neg hc98]; rw [if_neg hc102]; rw [if_pos hc109]; rw [if_neg hc126]
              exact nm_W1 hR (ih (m_declare x 0 0 0) v1 (v2 + 1) 0 (v4 + 1) ls _ _ hk hl hP hD hS)
            · skip
              have hk := hk.1 hc126
              refine lv_aload_n hx hb d_Mo_procedure_129 rfl (lv_at hl 1 rfl) ?_
              refine nm_get hx hb hg hown hK hP 3 (by decide) (by decide) (hg _ mw_893) d_Mo_procedure_130 ?_
              refine lv_bipush (v := 44) hx hb d_Mo_procedure_133 (by decide) ?_
              refine lv_icmp_ne (tgt := 147) hx hb d_Mo_procedure_135 rfl (fun hc135 => ?_) (fun hc135 => ?_)
              · skip
                have hk := hk.2 hc135
                refine lv_iconst (v := 0) hx hb d_Mo_procedure_147 (by decide) ?_
                refine lv_istore_n (lv' := [(3, .int 0), (2, .int (v2 + 1)), (0, .ref mo), (1, .int v1), (4, .int v4)]) hx hb d_Mo_procedure_148 rfl hl (by decide) rfl (fun ls hl => ?_)
                refine lv_iload_n hx hb d_Mo_procedure_149 rfl (lv_at hl 0 rfl) ?_
                refine lv_if_eq (tgt := 157) hx hb d_Mo_procedure_150 rfl (fun _ => ?_) (fun h => absurd (by decide) h)
                refine lv_iinc (k := 4) (v := v4 + 1) (lv' := [(4, .int (v4 + 1)), (3, .int 0), (2, .int (v2 + 1)), (0, .ref mo), (1, .int v1)]) hx hb d_Mo_procedure_157 hl rfl (rfl) (by decide) rfl (fun ls hl => ?_)
                refine lv_goto (tgt := 95) hx hb d_Mo_procedure_160 rfl ?_
                have hl := lv_sub (l' := [(0, .ref mo), (1, .int v1), (2, .int (v2 + 1)), (3, .int 0), (4, .int (v4 + 1))]) hl [3, 4, 2, 1, 0] rfl
                have hR : k_procedure_95 (n + 1) x v1 v2 v3 v4 = k_procedure_95 n (m_declare x 0 0 0) v1 (v2 + 1) 0 (v4 + 1) := by rw [k_procedure_95]; rw [if_neg hc98]; rw [if_neg hc102]; rw [if_pos hc109]; rw [if_pos hc126]; rw [if_neg hc135]
                exact nm_W1 hR (ih (m_declare x 0 0 0) v1 (v2 + 1) 0 (v4 + 1) ls _ _ hk hl hP hD hS)
              · skip
                have hk := hk.1 hc135
                refine lv_iload_n hx hb d_Mo_procedure_138 rfl (lv_at hl 0 rfl) ?_
                refine lv_iconst (v := 3) hx hb d_Mo_procedure_139 (by decide) ?_
                refine lv_icmp_ge (tgt := 147) hx hb d_Mo_procedure_140 rfl (fun hc140 => ?_) (fun hc140 => ?_)
                · skip
                  have hk := hk.1 hc140
                  refine lv_iconst (v := 0) hx hb d_Mo_procedure_147 (by decide) ?_
                  refine lv_istore_n (lv' := [(3, .int 0), (2, .int (v2 + 1)), (0, .ref mo), (1, .int v1), (4, .int v4)]) hx hb d_Mo_procedure_148 rfl hl (by decide) rfl (fun ls hl => ?_)
                  refine lv_iload_n hx hb d_Mo_procedure_149 rfl (lv_at hl 0 rfl) ?_
                  refine lv_if_eq (tgt := 157) hx hb d_Mo_procedure_150 rfl (fun _ => ?_) (fun h => absurd (by decide) h)
                  refine lv_iinc (k := 4) (v := v4 + 1) (lv' := [(4, .int (v4 + 1)), (3, .int 0), (2, .int (v2 + 1)), (0, .ref mo), (1, .int v1)]) hx hb d_Mo_procedure_157 hl rfl (rfl) (by decide) rfl (fun ls hl => ?_)
                  refine lv_goto (tgt := 95) hx hb d_Mo_procedure_160 rfl ?_
                  have hl := lv_sub (l' := [(0, .ref mo), (1, .int v1), (2, .int (v2 + 1)), (3, .int 0), (4, .int (v4 + 1))]) hl [3, 4, 2, 1, 0] rfl
                  have hR : k_procedure_95 (n + 1) x v1 v2 v3 v4 = k_procedure_95 n (m_declare x 0 0 0) v1 (v2 + 1) 0 (v4 + 1) := by rw [k_procedure_95]; rw [if_neg hc98]; rw [if_neg hc102]; rw [if_pos hc109]; rw [if_pos hc126]; rw [if_pos hc135]; rw [if_pos hc140]
                  exact nm_W1 hR (ih (m_declare x 0 0 0) v1 (v2 + 1) 0 (v4 + 1) ls _ _ hk hl hP hD hS)
                · skip
                  have hk := hk.2 hc140
                  refine lv_iconst (v := 1) hx hb d_Mo_procedure_143 (by decide) ?_
                  refine lv_goto (tgt := 148) hx hb d_Mo_procedure_144 rfl ?_
                  refine lv_istore_n (lv' := [(3, .int 1), (2, .int (v2 + 1)), (0, .ref mo), (1, .int v1), (4, .int v4)]) hx hb d_Mo_procedure_148 rfl hl (by decide) rfl (fun ls hl => ?_)
                  refine lv_iload_n hx hb d_Mo_procedure_149 rfl (lv_at hl 0 rfl) ?_
                  refine lv_if_eq (tgt := 157) hx hb d_Mo_procedure_150 rfl (fun h => absurd h (by decide)) (fun _ => ?_)
                  refine lv_aload_n hx hb d_Mo_procedure_153 rfl (lv_at hl 2 rfl) ?_
                  obtain ⟨hi, hk⟩ := hk
                  have hFc := nm_free hD hS hA
                  refine va_callv (va_runV (As := []) (rest := []) ⟨hx, hb, hml, hown, hts⟩ (t_goOn l G _ mo ad (m_declare x 0 0 0) hi) (cwV 0 hts (nn_gV mw_1068 mw_1065 mw_1067 mw_53 mw_94) rfl rfl rfl (by decide +kernel) ⟨Nat.le_of_ble_eq_true rfl, Nat.le_of_ble_eq_true rfl⟩) (nn_preV (va_recv hK hP rfl (q0 := 0) rfl) hP hD hK hN) rfl rfl hl.1 rfl (lv_room (Nat.le_of_ble_eq_true rfl)) d_Mo_procedure_154 ⟨Nat.le_of_ble_eq_true rfl, Nat.le_of_ble_eq_true rfl⟩) hS (fun q _ h => hFc q h) hFc (fun u t H locs ht hvm hw hB hz1 hk1 hS => ?_)
                  obtain ⟨hP1, hD1⟩ := hB
                  rw [ht] at hP1
                  have hP := hP1
                  have hD := hD1.weaken (fun _ _ _ h => hFc _ h)
                  refine lv_iinc (k := 4) (v := v4 + 1) (lv' := [(4, .int (v4 + 1)), (3, .int 1), (2, .int (v2 + 1)), (0, .ref mo), (1, .int v1)]) hx hb d_Mo_procedure_157 hl rfl (rfl) (by decide) rfl (fun ls hl => ?_)
                  refine lv_goto (tgt := 95) hx hb d_Mo_procedure_160 rfl ?_
                  have hl := lv_sub (l' := [(0, .ref mo), (1, .int v1), (2, .int (v2 + 1)), (3, .int 1), (4, .int (v4 + 1))]) hl [3, 4, 2, 1, 0] rfl
                  have hR : k_procedure_95 (n + 1) x v1 v2 v3 v4 = k_procedure_95 n (m_goOn (m_declare x 0 0 0)) v1 (v2 + 1) 1 (v4 + 1) := by rw [k_procedure_95]; rw [if_neg hc98]; rw [if_neg hc102]; rw [if_pos hc109]; rw [if_pos hc126]; rw [if_pos hc135]; rw [if_neg hc140]
                  exact nm_W1 hR (ih (m_goOn (m_declare x 0 0 0)) v1 (v2 + 1) 1 (v4 + 1) ls _ _ hk hl hP hD hS)
  unfold o_procedure at hk
  refine lv_aload_n hx hb d_Mo_procedure_0 rfl (lv_at hl 0 rfl) ?_
  refine nm_get hx hb hg hown hK hP 21 (by decide) (by decide) (hg _ mw_911) d_Mo_procedure_1 ?_
  refine lv_iconst (v := 4) hx hb d_Mo_procedure_4 (by decide) ?_
  refine lv_icmp_ne (tgt := 19) hx hb d_Mo_procedure_5 rfl (fun hc5 => ?_) (fun hc5 => ?_)
  · skip
    have hk := hk.2 hc5
    refine lv_aload_n hx hb d_Mo_procedure_19 rfl (lv_at hl 0 rfl) ?_
    obtain ⟨hi, hk⟩ := hk
    have hFc := nm_free hD hS hA
    refine va_callv (va_runV (As := []) (rest := []) ⟨hx, hb, hml, hown, hts⟩ (t_goOn l G _ mo ad x hi) (cwV 0 hts (nn_gV mw_1068 mw_1065 mw_1067 mw_53 mw_94) rfl rfl rfl (by decide +kernel) ⟨Nat.le_of_ble_eq_true rfl, Nat.le_of_ble_eq_true rfl⟩) (nn_preV (va_recv hK hP rfl (q0 := 0) rfl) hP hD hK hN) rfl rfl hl.1 rfl (lv_room (Nat.le_of_ble_eq_true rfl)) d_Mo_procedure_20 ⟨Nat.le_of_ble_eq_true rfl, Nat.le_of_ble_eq_true rfl⟩) hS (fun q _ h => hFc q h) hFc (fun u t H locs ht hvm hw hB hz1 hk1 hS => ?_)
    obtain ⟨hP1, hD1⟩ := hB
    rw [ht] at hP1
    have hP := hP1
    have hD := hD1.weaken (fun _ _ _ h => hFc _ h)
    refine lv_aload_n hx hb d_Mo_procedure_23 rfl (lv_at hl 0 rfl) ?_
    refine lv_iconst (v := 2) hx hb d_Mo_procedure_24 (by decide) ?_
    refine lv_aload_n hx hb d_Mo_procedure_25 rfl (lv_at hl 0 rfl) ?_
    refine nm_get hx hb hg hown hK hP 25 (by decide) (by decide) (hg _ mw_915) d_Mo_procedure_26 ?_
    refine lv_iconst (v := 0) hx hb d_Mo_procedure_29 (by decide) ?_
    obtain ⟨hi, hk⟩ := hk
    have hFc := nm_free hD hS hA
    refine va_callv (va_runV (As := [.int 2, .int ((m_goOn x).1 25), .int 0]) (rest := []) ⟨hx, hb, hml, hown, hts⟩ (t_declare l G _ mo ad (m_goOn x) 2 ((m_goOn x).1 25) 0 hi) (cwV 3 hts (nn_gV mw_1072 mw_1069 mw_1071 mw_54 mw_94) rfl rfl rfl (by decide +kernel) ⟨Nat.le_of_ble_eq_true rfl, Nat.le_of_ble_eq_true rfl⟩) (nn_preV (va_recv hK hP rfl (q0 := 0) rfl) hP hD hK hN) rfl rfl hl.1 rfl (lv_room (Nat.le_of_ble_eq_true rfl)) d_Mo_procedure_30 ⟨Nat.le_of_ble_eq_true rfl, Nat.le_of_ble_eq_true rfl⟩) hS (fun q _ h => hFc q h) hFc (fun u t H locs ht hvm hw hB hz1 hk1 hS => ?_)
    obtain ⟨hP1, hD1⟩ := hB
    rw [ht] at hP1
    have hP := hP1
    have hD := hD1.weaken (fun _ _ _ h => hFc _ h)
    refine lv_aload_n hx hb d_Mo_procedure_33 rfl (lv_at hl 0 rfl) ?_
    refine nm_get hx hb hg hown hK hP 15 (by decide) (by decide) (hg _ mw_905) d_Mo_procedure_34 ?_
    refine lv_iconst (v := 1) hx hb d_Mo_procedure_37 (by decide) ?_
    refine lv_isub hx hb d_Mo_procedure_38 ?_
    refine lv_istore_n (lv' := [(1, .int (((m_declare (m_goOn x) 2 ((m_goOn x).1 25) 0).1 15) - 1)), (0, .ref mo)]) hx hb d_Mo_procedure_39 rfl hl (by decide) rfl (fun ls hl => ?_)
    refine lv_aload_n hx hb d_Mo_procedure_40 rfl (lv_at hl 1 rfl) ?_
    refine lv_iconst (v := 3) hx hb d_Mo_procedure_41 (by decide) ?_
    refine lv_aload_n hx hb d_Mo_procedure_42 rfl (lv_at hl 1 rfl) ?_
    refine nm_get hx hb hg hown hK hP 15 (by decide) (by decide) (hg _ mw_905) d_Mo_procedure_43 ?_
    refine lv_aload_n hx hb d_Mo_procedure_46 rfl (lv_at hl 1 rfl) ?_
    refine nm_get hx hb hg hown hK hP 22 (by decide) (by decide) (hg _ mw_912) d_Mo_procedure_47 ?_
    obtain ⟨hi, hk⟩ := hk
    have hFc := nm_free hD hS hA
    refine va_callv (va_runV (As := [.int 3, .int ((m_declare (m_goOn x) 2 ((m_goOn x).1 25) 0).1 15), .int ((m_declare (m_goOn x) 2 ((m_goOn x).1 25) 0).1 22)]) (rest := []) ⟨hx, hb, hml, hown, hts⟩ (t_push l G _ mo ad (m_declare (m_goOn x) 2 ((m_goOn x).1 25) 0) 3 ((m_declare (m_goOn x) 2 ((m_goOn x).1 25) 0).1 15) ((m_declare (m_goOn x) 2 ((m_goOn x).1 25) 0).1 22) hi) (cwV 3 hts (nn_gV mw_1028 mw_1025 mw_1027 mw_46 mw_94) rfl rfl rfl (by decide +kernel) ⟨Nat.le_of_ble_eq_true rfl, Nat.le_of_ble_eq_true rfl⟩) (nn_preV (va_recv hK hP rfl (q0 := 0) rfl) hP hD hK hN) rfl rfl hl.1 rfl (lv_room (Nat.le_of_ble_eq_true rfl)) d_Mo_procedure_50 ⟨Nat.le_of_ble_eq_true rfl, Nat.le_of_ble_eq_true rfl⟩) hS (fun q _ h => hFc q h) hFc (fun u t H locs ht hvm hw hB hz1 hk1 hS => ?_)
    obtain ⟨hP1, hD1⟩ := hB
    rw [ht] at hP1
    have hP := hP1
    have hD := hD1.weaken (fun _ _ _ h => hFc _ h)
    refine lv_aload_n hx hb d_Mo_procedure_53 rfl (lv_at hl 1 rfl) ?_
    refine lv_dup hx hb d_Mo_procedure_54 rfl ?_
    refine nm_get hx hb hg hown hK hP 21 (by decide) (by decide) (hg _ mw_911) d_Mo_procedure_55 ?_
    refine lv_iconst (v := 1) hx hb d_Mo_procedure_58 (by decide) ?_
    refine lv_iadd hx hb d_Mo_procedure_59 ?_
    refine nm_put hx hb hg hown hK hP hD hS 21 (by decide) (by decide) (by decide) (hg _ mw_911) d_Mo_procedure_60 (fun H locs hP hD hS => ?_)
    refine lv_aload_n hx hb d_Mo_procedure_63 rfl (lv_at hl 1 rfl) ?_
    refine lv_iconst (v := 3) hx hb d_Mo_procedure_64 (by decide) ?_
    refine nm_put hx hb hg hown hK hP hD hS 22 (by decide) (by decide) (by decide) (hg _ mw_912) d_Mo_procedure_65 (fun H locs hP hD hS => ?_)
    refine lv_iconst (v := 0) hx hb d_Mo_procedure_68 (by decide) ?_
    refine lv_istore_n (lv' := [(2, .int 0), (1, .int (((m_declare (m_goOn x) 2 ((m_goOn x).1 25) 0).1 15) - 1)), (0, .ref mo)]) hx hb d_Mo_procedure_69 rfl hl (by decide) rfl (fun ls hl => ?_)
    refine lv_aload_n hx hb d_Mo_procedure_70 rfl (lv_at hl 2 rfl) ?_
    refine nm_get hx hb hg hown hK hP 7 (by decide) (by decide) (hg _ mw_897) d_Mo_procedure_71 ?_
    refine nb_top ((m_push (m_declare (m_goOn x) 2 ((m_goOn x).1 25) 0) 3 ((m_declare (m_goOn x) 2 ((m_goOn x).1 25) 0).1 15) ((m_declare (m_goOn x) 2 ((m_goOn x).1 25) 0).1 22)).1 7) rfl ?_
    refine lv_if_ne (tgt := 176) hx hb d_Mo_procedure_74 rfl (fun hc74 => ?_) (fun hc74 => ?_)
    · skip
      have hk := hk.2 hc74
      have hl := lv_sub (l' := [(0, .ref mo), (1, .int (((m_declare (m_goOn x) 2 ((m_goOn x).1 25) 0).1 15) - 1)), (2, .int 0)]) hl [2, 1, 0] rfl
      have hR : m_procedure x = k_procedure_176 (nm_f (nm_f (m_push (m_declare (m_goOn x) 2 ((m_goOn x).1 25) 0) 3 ((m_declare (m_goOn x) 2 ((m_goOn x).1 25) 0).1 15) ((m_declare (m_goOn x) 2 ((m_goOn x).1 25) 0).1 22)) 21 (((m_push (m_declare (m_goOn x) 2 ((m_goOn x).1 25) 0) 3 ((m_declare (m_goOn x) 2 ((m_goOn x).1 25) 0).1 15) ((m_declare (m_goOn x) 2 ((m_goOn x).1 25) 0).1 22)).1 21) + 1)) 22 3) (((m_declare (m_goOn x) 2 ((m_goOn x).1 25) 0).1 15) - 1) 0 := by rw [m_procedure]; rw [if_neg hc5]; rw [if_neg hc74]
      exact nm_W1 hR (J176 (nm_f (nm_f (m_push (m_declare (m_goOn x) 2 ((m_goOn x).1 25) 0) 3 ((m_declare (m_goOn x) 2 ((m_goOn x).1 25) 0).1 15) ((m_declare (m_goOn x) 2 ((m_goOn x).1 25) 0).1 22)) 21 (((m_push (m_declare (m_goOn x) 2 ((m_goOn x).1 25) 0) 3 ((m_declare (m_goOn x) 2 ((m_goOn x).1 25) 0).1 15) ((m_declare (m_goOn x) 2 ((m_goOn x).1 25) 0).1 22)).1 21) + 1)) 22 3) (((m_declare (m_goOn x) 2 ((m_goOn x).1 25) 0).1 15) - 1) 0 ls _ _ hk hl hP hD hS)
    · skip
      have hk := hk.1 hc74
      refine lv_aload_n hx hb d_Mo_procedure_77 rfl (lv_at hl 2 rfl) ?_
      refine nm_get hx hb hg hown hK hP 3 (by decide) (by decide) (hg _ mw_893) d_Mo_procedure_78 ?_
      refine nb_top ((m_push (m_declare (m_goOn x) 2 ((m_goOn x).1 25) 0) 3 ((m_declare (m_goOn x) 2 ((m_goOn x).1 25) 0).1 15) ((m_declare (m_goOn x) 2 ((m_goOn x).1 25) 0).1 22)).1 3) rfl ?_
      refine lv_bipush (v := 40) hx hb d_Mo_procedure_81 (by decide) ?_
      refine lv_icmp_ne (tgt := 176) hx hb d_Mo_procedure_83 rfl (fun hc83 => ?_) (fun hc83 => ?_)
      · skip
        have hk := hk.2 hc83
        have hl := lv_sub (l' := [(0, .ref mo), (1, .int (((m_declare (m_goOn x) 2 ((m_goOn x).1 25) 0).1 15) - 1)), (2, .int 0)]) hl [2, 1, 0] rfl
        have hR : m_procedure x = k_procedure_176 (nm_f (nm_f (m_push (m_declare (m_goOn x) 2 ((m_goOn x).1 25) 0) 3 ((m_declare (m_goOn x) 2 ((m_goOn x).1 25) 0).1 15) ((m_declare (m_goOn x) 2 ((m_goOn x).1 25) 0).1 22)) 21 (((m_push (m_declare (m_goOn x) 2 ((m_goOn x).1 25) 0) 3 ((m_declare (m_goOn x) 2 ((m_goOn x).1 25) 0).1 15) ((m_declare (m_goOn x) 2 ((m_goOn x).1 25) 0).1 22)).1 21) + 1)) 22 3) (((m_declare (m_goOn x) 2 ((m_goOn x).1 25) 0).1 15) - 1) 0 := by rw [m_procedure]; rw [if_neg hc5]; rw [if_pos hc74]; rw [if_neg hc83]
        exact nm_W1 hR (J176 (nm_f (nm_f (m_push (m_declare (m_goOn x) 2 ((m_goOn x).1 25) 0) 3 ((m_declare (m_goOn x) 2 ((m_goOn x).1 25) 0).1 15) ((m_declare (m_goOn x) 2 ((m_goOn x).1 25) 0).1 22)) 21 (((m_push (m_declare (m_goOn x) 2 ((m_goOn x).1 25) 0) 3 ((m_declare (m_goOn x) 2 ((m_goOn x).1 25) 0).1 15) ((m_declare (m_goOn x) 2 ((m_goOn x).1 25) 0).1 22)).1 21) + 1)) 22 3) (((m_declare (m_goOn x) 2 ((m_goOn x).1 25) 0).1 15) - 1) 0 ls _ _ hk hl hP hD hS)
      · skip
        have hk := hk.1 hc83
        refine lv_aload_n hx hb d_Mo_procedure_86 rfl (lv_at hl 2 rfl) ?_
        obtain ⟨hi, hk⟩ := hk
        have hFc := nm_free hD hS hA
        refine va_callv (va_runV (As := []) (rest := []) ⟨hx, hb, hml, hown, hts⟩ (t_goOn l G _ mo ad (nm_f (nm_f (m_push (m_declare (m_goOn x) 2 ((m_goOn x).1 25) 0) 3 ((m_declare (m_goOn x) 2 ((m_goOn x).1 25) 0).1 15) ((m_declare (m_goOn x) 2 ((m_goOn x).1 25) 0).1 22)) 21 (((m_push (m_declare (m_goOn x) 2 ((m_goOn x).1 25) 0) 3 ((m_declare (m_goOn x) 2 ((m_goOn x).1 25) 0).1 15) ((m_declare (m_goOn x) 2 ((m_goOn x).1 25) 0).1 22)).1 21) + 1)) 22 3) hi) (cwV 0 hts (nn_gV mw_1068 mw_1065 mw_1067 mw_53 mw_94) rfl rfl rfl (by decide +kernel) ⟨Nat.le_of_ble_eq_true rfl, Nat.le_of_ble_eq_true rfl⟩) (nn_preV (va_recv hK hP rfl (q0 := 0) rfl) hP hD hK hN) rfl rfl hl.1 rfl (lv_room (Nat.le_of_ble_eq_true rfl)) d_Mo_procedure_87 ⟨Nat.le_of_ble_eq_true rfl, Nat.le_of_ble_eq_true rfl⟩) hS (fun q _ h => hFc q h) hFc (fun u t H locs ht hvm hw hB hz1 hk1 hS => ?_)
        obtain ⟨hP1, hD1⟩ := hB
        rw [ht] at hP1
        have hP := hP1
        have hD := hD1.weaken (fun _ _ _ h => hFc _ h)
        refine lv_iconst (v := 1) hx hb d_Mo_procedure_90 (by decide) ?_
        refine lv_istore_n (lv' := [(3, .int 1), (2, .int 0), (1, .int (((m_declare (m_goOn x) 2 ((m_goOn x).1 25) 0).1 15) - 1)), (0, .ref mo)]) hx hb d_Mo_procedure_91 rfl hl (by decide) rfl (fun ls hl => ?_)
        refine lv_iconst (v := 0) hx hb d_Mo_procedure_92 (by decide) ?_
        refine lv_istore (lv' := [(4, .int 0), (3, .int 1), (2, .int 0), (1, .int (((m_declare (m_goOn x) 2 ((m_goOn x).1 25) 0).1 15) - 1)), (0, .ref mo)]) hx hb d_Mo_procedure_93 hl (by decide) rfl (fun ls hl => ?_)
        have hl := lv_sub (l' := [(0, .ref mo), (1, .int (((m_declare (m_goOn x) 2 ((m_goOn x).1 25) 0).1 15) - 1)), (2, .int 0), (3, .int 1), (4, .int 0)]) hl [4, 3, 2, 1, 0] rfl
        have hR : m_procedure x = k_procedure_95 300 (m_goOn (nm_f (nm_f (m_push (m_declare (m_goOn x) 2 ((m_goOn x).1 25) 0) 3 ((m_declare (m_goOn x) 2 ((m_goOn x).1 25) 0).1 15) ((m_declare (m_goOn x) 2 ((m_goOn x).1 25) 0).1 22)) 21 (((m_push (m_declare (m_goOn x) 2 ((m_goOn x).1 25) 0) 3 ((m_declare (m_goOn x) 2 ((m_goOn x).1 25) 0).1 15) ((m_declare (m_goOn x) 2 ((m_goOn x).1 25) 0).1 22)).1 21) + 1)) 22 3)) (((m_declare (m_goOn x) 2 ((m_goOn x).1 25) 0).1 15) - 1) 0 1 0 := by rw [m_procedure]; rw [if_neg hc5]; rw [if_pos hc74]; rw [if_pos hc83]
        exact nm_W1 hR (J95 300 (m_goOn (nm_f (nm_f (m_push (m_declare (m_goOn x) 2 ((m_goOn x).1 25) 0) 3 ((m_declare (m_goOn x) 2 ((m_goOn x).1 25) 0).1 15) ((m_declare (m_goOn x) 2 ((m_goOn x).1 25) 0).1 22)) 21 (((m_push (m_declare (m_goOn x) 2 ((m_goOn x).1 25) 0) 3 ((m_declare (m_goOn x) 2 ((m_goOn x).1 25) 0).1 15) ((m_declare (m_goOn x) 2 ((m_goOn x).1 25) 0).1 22)).1 21) + 1)) 22 3)) (((m_declare (m_goOn x) 2 ((m_goOn x).1 25) 0).1 15) - 1) 0 1 0 ls _ _ hk hl hP hD hS)
  · skip
    have hk := hk.1 hc5
    refine lv_aload_n hx hb d_Mo_procedure_8 rfl (lv_at hl 0 rfl) ?_
    refine lv_bipush (v := 6) hx hb d_Mo_procedure_9 (by decide) ?_
    refine lv_aload_n hx hb d_Mo_procedure_11 rfl (lv_at hl 0 rfl) ?_
    refine nm_get hx hb hg hown hK hP 4 (by decide) (by decide) (hg _ mw_894) d_Mo_procedure_12 ?_
    have hFc := nm_free hD hS hA
    refine va_callv (va_runV (As := [.int 6, .int (x.1 4)]) (rest := []) ⟨hx, hb, hml, hown, hts⟩ (t_fail l G _ mo ad x 6 (x.1 4)) (cwV 2 hts (nn_gV mw_1080 mw_1077 mw_1079 mw_56 mw_94) rfl rfl rfl (by decide +kernel) ⟨Nat.le_of_ble_eq_true rfl, Nat.le_of_ble_eq_true rfl⟩) (nn_preV (va_recv hK hP rfl (q0 := 0) rfl) hP hD hK hN) rfl rfl hl.1 rfl (lv_room (Nat.le_of_ble_eq_true rfl)) d_Mo_procedure_15 ⟨Nat.le_of_ble_eq_true rfl, Nat.le_of_ble_eq_true rfl⟩) hS (fun q _ h => hFc q h) hFc (fun u t H locs ht hvm hw hB hz1 hk1 hS => ?_)
    obtain ⟨hP1, hD1⟩ := hB
    rw [ht] at hP1
    have hP := hP1
    have hD := hD1.weaken (fun _ _ _ h => hFc _ h)
    have hR : m_procedure x = m_fail x 6 (x.1 4) := by rw [m_procedure]; rw [if_pos hc5]
    refine nm_W1 hR ?_
    exact W.vret hx hb hr (fun t ht hW => ⟨⟨(), rfl, trivial, ⟨by rw [ht]; exact hP, hD⟩⟩, hS.F ht⟩) hS.2.2 d_Mo_procedure_18

theorem mw_59 : (.selects R_Mo y_Mo_procedure y_Mo_procedure : Cond) ∈ nn_gw := nn_at 59 (by decide +kernel) (by decide +kernel)
theorem mw_1089 : (.methodLink R_Mo 165 y_Mo_procedure : Cond) ∈ nn_gw := nn_at 1089 (by decide +kernel) (by decide +kernel)
theorem mw_1091 : (.instanceMethod y_Mo_procedure : Cond) ∈ nn_gw := nn_at 1091 (by decide +kernel) (by decide +kernel)
set_option maxRecDepth 100000 in
theorem mw_1092 : (.code y_Mo_procedure b_Mo_procedure 5 none : Cond) ∈ nn_gw := nn_at 1092 (by rfl) (by decide +kernel)
theorem d_Mo_parts_0 : decode b_Mo_parts 0 = .ok (.aload_n 0, 1) := by decide +kernel
theorem d_Mo_parts_1 : decode b_Mo_parts 1 = .ok (.getfield 88, 3) := by decide +kernel
theorem d_Mo_parts_4 : decode b_Mo_parts 4 = .ok (.iconst 5, 1) := by decide +kernel
theorem d_Mo_parts_5 : decode b_Mo_parts 5 = .ok (.if_icmp .ne 17, 3) := by decide +kernel
theorem d_Mo_parts_8 : decode b_Mo_parts 8 = .ok (.aload_n 0, 1) := by decide +kernel
theorem d_Mo_parts_9 : decode b_Mo_parts 9 = .ok (.iconst 1, 1) := by decide +kernel
theorem d_Mo_parts_10 : decode b_Mo_parts 10 = .ok (.iload_n 1, 1) := by decide +kernel
theorem d_Mo_parts_11 : decode b_Mo_parts 11 = .ok (.iload_n 2, 1) := by decide +kernel
theorem d_Mo_parts_12 : decode b_Mo_parts 12 = .ok (.invokevirtual 162, 3) := by decide +kernel
theorem d_Mo_parts_15 : decode b_Mo_parts 15 = .ok (.aload_n 0, 1) := by decide +kernel
theorem d_Mo_parts_16 : decode b_Mo_parts 16 = .ok (.invokevirtual 165, 3) := by decide +kernel
theorem d_Mo_parts_19 : decode b_Mo_parts 19 = .ok (.goto 72, 3) := by decide +kernel
theorem d_Mo_parts_22 : decode b_Mo_parts 22 = .ok (.aload_n 0, 1) := by decide +kernel
theorem d_Mo_parts_23 : decode b_Mo_parts 23 = .ok (.getfield 88, 3) := by decide +kernel
theorem d_Mo_parts_26 : decode b_Mo_parts 26 = .ok (.bipush 7, 2) := by decide +kernel
theorem d_Mo_parts_28 : decode b_Mo_parts 28 = .ok (.if_icmp .eq 15, 3) := by decide +kernel
theorem d_Mo_parts_31 : decode b_Mo_parts 31 = .ok (.aload_n 0, 1) := by decide +kernel
theorem d_Mo_parts_32 : decode b_Mo_parts 32 = .ok (.iconst 1, 1) := by decide +kernel
theorem d_Mo_parts_33 : decode b_Mo_parts 33 = .ok (.aload_n 0, 1) := by decide +kernel
theorem d_Mo_parts_34 : decode b_Mo_parts 34 = .ok (.getfield 78, 3) := by decide +kernel
theorem d_Mo_parts_37 : decode b_Mo_parts 37 = .ok (.invokevirtual 120, 3) := by decide +kernel
theorem d_Mo_parts_40 : decode b_Mo_parts 40 = .ok (.goto 51, 3) := by decide +kernel
theorem d_Mo_parts_43 : decode b_Mo_parts 43 = .ok (.aload_n 0, 1) := by decide +kernel
theorem d_Mo_parts_44 : decode b_Mo_parts 44 = .ok (.invokevirtual 117, 3) := by decide +kernel
theorem d_Mo_parts_47 : decode b_Mo_parts 47 = .ok (.aload_n 0, 1) := by decide +kernel
theorem d_Mo_parts_48 : decode b_Mo_parts 48 = .ok (.getfield 51, 3) := by decide +kernel
theorem d_Mo_parts_51 : decode b_Mo_parts 51 = .ok (.iload_n 1, 1) := by decide +kernel
theorem d_Mo_parts_52 : decode b_Mo_parts 52 = .ok (.aload_n 0, 1) := by decide +kernel
theorem d_Mo_parts_53 : decode b_Mo_parts 53 = .ok (.getfield 133, 3) := by decide +kernel
theorem d_Mo_parts_56 : decode b_Mo_parts 56 = .ok (.iastore, 1) := by decide +kernel
theorem d_Mo_parts_57 : decode b_Mo_parts 57 = .ok (.aload_n 0, 1) := by decide +kernel
theorem d_Mo_parts_58 : decode b_Mo_parts 58 = .ok (.bipush 6, 2) := by decide +kernel
theorem d_Mo_parts_60 : decode b_Mo_parts 60 = .ok (.iconst 0, 1) := by decide +kernel
theorem d_Mo_parts_61 : decode b_Mo_parts 61 = .ok (.aload_n 0, 1) := by decide +kernel
theorem d_Mo_parts_62 : decode b_Mo_parts 62 = .ok (.getfield 142, 3) := by decide +kernel
theorem d_Mo_parts_65 : decode b_Mo_parts 65 = .ok (.invokevirtual 152, 3) := by decide +kernel
theorem d_Mo_parts_68 : decode b_Mo_parts 68 = .ok (.istore_n 3, 1) := by decide +kernel
theorem d_Mo_parts_69 : decode b_Mo_parts 69 = .ok (.aload_n 0, 1) := by decide +kernel
theorem d_Mo_parts_70 : decode b_Mo_parts 70 = .ok (.iconst 2, 1) := by decide +kernel
theorem d_Mo_parts_71 : decode b_Mo_parts 71 = .ok (.iload_n 2, 1) := by decide +kernel
theorem d_Mo_parts_72 : decode b_Mo_parts 72 = .ok (.iconst 0, 1) := by decide +kernel
theorem d_Mo_parts_73 : decode b_Mo_parts 73 = .ok (.invokevirtual 162, 3) := by decide +kernel
theorem d_Mo_parts_76 : decode b_Mo_parts 76 = .ok (.aload_n 0, 1) := by decide +kernel
theorem d_Mo_parts_77 : decode b_Mo_parts 77 = .ok (.iconst 5, 1) := by decide +kernel
theorem d_Mo_parts_78 : decode b_Mo_parts 78 = .ok (.iconst 0, 1) := by decide +kernel
theorem d_Mo_parts_79 : decode b_Mo_parts 79 = .ok (.iconst 0, 1) := by decide +kernel
theorem d_Mo_parts_80 : decode b_Mo_parts 80 = .ok (.invokevirtual 162, 3) := by decide +kernel
theorem d_Mo_parts_83 : decode b_Mo_parts 83 = .ok (.aload_n 0, 1) := by decide +kernel
theorem d_Mo_parts_84 : decode b_Mo_parts 84 = .ok (.bipush 6, 2) := by decide +kernel
theorem d_Mo_parts_86 : decode b_Mo_parts 86 = .ok (.iconst 0, 1) := by decide +kernel
theorem d_Mo_parts_87 : decode b_Mo_parts 87 = .ok (.iconst 0, 1) := by decide +kernel
theorem d_Mo_parts_88 : decode b_Mo_parts 88 = .ok (.invokevirtual 162, 3) := by decide +kernel
theorem d_Mo_parts_91 : decode b_Mo_parts 91 = .ok (.return_, 1) := by decide +kernel

def m_parts (x : nM) (a1 : Int32) (a2 : Int32) : nM := (if x.1 3 = 5 then (m_procedure (m_push x 1 a1 a2)) else (if x.1 3 = 7 then (m_push (m_push (m_push ((m_emit (nm_a (m_goOn x) 28 a1 ((m_goOn x).1 25)) 6 0 ((m_goOn x).1 22)).1) 2 a2 0) 5 0 0) 6 0 0) else (m_fail x 1 (x.1 4))))
def o_parts (x : nM) (a1 : Int32) (a2 : Int32) : Prop := ((x.1 3 = 5 → o_push x 1 a1 a2 ∧ o_procedure (m_push x 1 a1 a2) ∧ True) ∧ (¬ (x.1 3 = 5) → ((x.1 3 = 7 → o_goOn x ∧ vp_in a1 400 ∧ o_emit (nm_a (m_goOn x) 28 a1 ((m_goOn x).1 25)) 6 0 ((m_goOn x).1 22) ∧ o_push ((m_emit (nm_a (m_goOn x) 28 a1 ((m_goOn x).1 25)) 6 0 ((m_goOn x).1 22)).1) 2 a2 0 ∧ o_push (m_push ((m_emit (nm_a (m_goOn x) 28 a1 ((m_goOn x).1 25)) 6 0 ((m_goOn x).1 22)).1) 2 a2 0) 5 0 0 ∧ o_push (m_push (m_push ((m_emit (nm_a (m_goOn x) 28 a1 ((m_goOn x).1 25)) 6 0 ((m_goOn x).1 22)).1) 2 a2 0) 5 0 0) 6 0 0 ∧ True) ∧ (¬ (x.1 3 = 7) → True))))
set_option maxHeartbeats 4000000 in
set_option maxRecDepth 100000 in
theorem t_parts (l : Launch) (G : nn_G) (sz : Nat) (mo : Nat) (ad : Nat → Nat) (x : nM) (a1 : Int32) (a2 : Int32) (hk : o_parts x a1 a2) : Met l y_Mo_parts w_Mo_parts ({ frames := 5, cells := 0, slots := 0, locals := 112 }) (nn_P G [.ref mo, .int a1, .int a2] (nm_W G mo ad x) sz) (nm_Qv G mo ad (m_parts x a1 a2) (va_A (nm_W G mo ad x) sz)) 0 0 (va_A (nm_W G mo ad x) sz) := by
  refine Met.ofW (cc := b_Mo_parts) (maxL := 4) (ret := none) (by decide) rfl ?_
  intro p e s m args below meth c s₁ B hml hv
  obtain ⟨rfl, hsz, hP, hK, hD0, hN⟩ := hv
  have hx := B.exec
  have hb := B.bytes
  have hr := B.returns
  have hts := atoms_spec (ws := w_Mo_parts) B.pre
  have hg : ∀ w ∈ nn_gw, w.before _ s = true := fun w h => hts w (List.mem_cons_of_mem _ h)
  have hown : s.vm.findClass R_Mo = some m.cls := findClass_of_methodNamed B.named
  subst hsz
  have hD := hD0.self (sz := s.heap.size)
  generalize hAe : va_A (nm_W G mo ad x) s.heap.size = A at hD ⊢
  have hA : ∀ q : Nat, s.heap.size ≤ q → A q := fun q h => by rw [← hAe]; exact Or.inr h
  clear hAe
  have hS : va_S A s.heap s.heap [] := va_S.rf
  have hP : va_P G.1 nn_cls (nm_W G mo ad x) s.heap := hP
  have hl := lv_entry ([.ref mo, .int a1, .int a2]) (n := 4) (Nat.le_of_ble_eq_true rfl)
  rw [lg_entry_eq]
  generalize (lg_sl ([.ref mo, .int a1, .int a2]) ++ List.replicate (4 - (lg_sl ([.ref mo, .int a1, .int a2])).length) Slot.unset).toArray = ls at hl ⊢
  have hl : lv_has ls 4 [(0, .ref mo), (1, .int a1), (2, .int a2)] := hl
  unfold o_parts at hk
  refine lv_aload_n hx hb d_Mo_parts_0 rfl (lv_at hl 0 rfl) ?_
  refine nm_get hx hb hg hown hK hP 3 (by decide) (by decide) (hg _ mw_893) d_Mo_parts_1 ?_
  refine lv_iconst (v := 5) hx hb d_Mo_parts_4 (by decide) ?_
  refine lv_icmp_ne (tgt := 22) hx hb d_Mo_parts_5 rfl (fun hc5 => ?_) (fun hc5 => ?_)
  · skip
    have hk := hk.2 hc5
    refine lv_aload_n hx hb d_Mo_parts_22 rfl (lv_at hl 0 rfl) ?_
    refine nm_get hx hb hg hown hK hP 3 (by decide) (by decide) (hg _ mw_893) d_Mo_parts_23 ?_
    refine lv_bipush (v := 7) hx hb d_Mo_parts_26 (by decide) ?_
    refine lv_icmp_eq (tgt := 43) hx hb d_Mo_parts_28 rfl (fun hc28 => ?_) (fun hc28 => ?_)
    · skip
      have hk := hk.1 hc28
      refine lv_aload_n hx hb d_Mo_parts_43 rfl (lv_at hl 0 rfl) ?_
      obtain ⟨hi, hk⟩ := hk
      have hFc := nm_free hD hS hA
      refine va_callv (va_runV (As := []) (rest := []) ⟨hx, hb, hml, hown, hts⟩ (t_goOn l G _ mo ad x hi) (cwV 0 hts (nn_gV mw_1068 mw_1065 mw_1067 mw_53 mw_94) rfl rfl rfl (by decide +kernel) ⟨Nat.le_of_ble_eq_true rfl, Nat.le_of_ble_eq_true rfl⟩) (nn_preV (va_recv hK hP rfl (q0 := 0) rfl) hP hD hK hN) rfl rfl hl.1 rfl (lv_room (Nat.le_of_ble_eq_true rfl)) d_Mo_parts_44 ⟨Nat.le_of_ble_eq_true rfl, Nat.le_of_ble_eq_true rfl⟩) hS (fun q _ h => hFc q h) hFc (fun u t H locs ht hvm hw hB hz1 hk1 hS => ?_)
      obtain ⟨hP1, hD1⟩ := hB
      rw [ht] at hP1
      have hP := hP1
      have hD := hD1.weaken (fun _ _ _ h => hFc _ h)
      refine lv_aload_n hx hb d_Mo_parts_47 rfl (lv_at hl 0 rfl) ?_
      refine nm_getA hx hb hg hown hK hP 28 (by decide) (by decide) (hg _ mw_918) d_Mo_parts_48 ?_
      refine lv_iload_n hx hb d_Mo_parts_51 rfl (lv_at hl 1 rfl) ?_
      refine lv_aload_n hx hb d_Mo_parts_52 rfl (lv_at hl 0 rfl) ?_
      refine nm_get hx hb hg hown hK hP 25 (by decide) (by decide) (hg _ mw_915) d_Mo_parts_53 ?_
      obtain ⟨hi, hk⟩ := hk
      refine nm_st hx hb hK hP hD hS 28 11 rfl (by decide) hi d_Mo_parts_56 (fun H locs hP hD hS => ?_)
      refine lv_aload_n hx hb d_Mo_parts_57 rfl (lv_at hl 0 rfl) ?_
      refine lv_bipush (v := 6) hx hb d_Mo_parts_58 (by decide) ?_
      refine lv_iconst (v := 0) hx hb d_Mo_parts_60 (by decide) ?_
      refine lv_aload_n hx hb d_Mo_parts_61 rfl (lv_at hl 0 rfl) ?_
      refine nm_get hx hb hg hown hK hP 22 (by decide) (by decide) (hg _ mw_912) d_Mo_parts_62 ?_
      refine nb_top ((m_goOn x).1 22) rfl ?_
      obtain ⟨hi, hk⟩ := hk
      have hFc := nm_free hD hS hA
      refine va_calli (va_runV (As := [.int 6, .int 0, .int ((m_goOn x).1 22)]) (rest := []) ⟨hx, hb, hml, hown, hts⟩ (t_emit l G _ mo ad (nm_a (m_goOn x) 28 a1 ((m_goOn x).1 25)) 6 0 ((m_goOn x).1 22) hi) (cwV 3 hts (nn_gV mw_1060 mw_1057 mw_1059 mw_51 mw_94) rfl rfl rfl (by decide +kernel) ⟨Nat.le_of_ble_eq_true rfl, Nat.le_of_ble_eq_true rfl⟩) (nn_preV (va_recv hK hP rfl (q0 := 0) rfl) hP hD hK hN) rfl rfl hl.1 rfl (lv_room (Nat.le_of_ble_eq_true rfl)) d_Mo_parts_65 ⟨Nat.le_of_ble_eq_true rfl, Nat.le_of_ble_eq_true rfl⟩) hS (fun q _ h => hFc q h) hFc (fun r2 u t H locs ht hvm hw hB hz1 hk1 hS => ?_)
      subst hw
      obtain ⟨hP1, hD1⟩ := hB
      rw [ht] at hP1
      have hP := hP1
      have hD := hD1.weaken (fun _ _ _ h => hFc _ h)
      refine lv_istore_n (lv' := [(3, .int ((m_emit (nm_a (m_goOn x) 28 a1 ((m_goOn x).1 25)) 6 0 ((m_goOn x).1 22)).2)), (0, .ref mo), (1, .int a1), (2, .int a2)]) hx hb d_Mo_parts_68 rfl hl (by decide) rfl (fun ls hl => ?_)
      refine lv_aload_n hx hb d_Mo_parts_69 rfl (lv_at hl 1 rfl) ?_
      refine lv_iconst (v := 2) hx hb d_Mo_parts_70 (by decide) ?_
      refine lv_iload_n hx hb d_Mo_parts_71 rfl (lv_at hl 3 rfl) ?_
      refine lv_iconst (v := 0) hx hb d_Mo_parts_72 (by decide) ?_
      obtain ⟨hi, hk⟩ := hk
      have hFc := nm_free hD hS hA
      refine va_callv (va_runV (As := [.int 2, .int a2, .int 0]) (rest := []) ⟨hx, hb, hml, hown, hts⟩ (t_push l G _ mo ad ((m_emit (nm_a (m_goOn x) 28 a1 ((m_goOn x).1 25)) 6 0 ((m_goOn x).1 22)).1) 2 a2 0 hi) (cwV 3 hts (nn_gV mw_1028 mw_1025 mw_1027 mw_46 mw_94) rfl rfl rfl (by decide +kernel) ⟨Nat.le_of_ble_eq_true rfl, Nat.le_of_ble_eq_true rfl⟩) (nn_preV (va_recv hK hP rfl (q0 := 0) rfl) hP hD hK hN) rfl rfl hl.1 rfl (lv_room (Nat.le_of_ble_eq_true rfl)) d_Mo_parts_73 ⟨Nat.le_of_ble_eq_true rfl, Nat.le_of_ble_eq_true rfl⟩) hS (fun q _ h => hFc q h) hFc (fun u t H locs ht hvm hw hB hz1 hk1 hS => ?_)
      obtain ⟨hP1, hD1⟩ := hB
      rw [ht] at hP1
      have hP := hP1
      have hD := hD1.weaken (fun _ _ _ h => hFc _ h)
      refine lv_aload_n hx hb d_Mo_parts_76 rfl (lv_at hl 1 rfl) ?_
      refine lv_iconst (v := 5) hx hb d_Mo_parts_77 (by decide) ?_
      refine lv_iconst (v := 0) hx hb d_Mo_parts_78 (by decide) ?_
      refine lv_iconst (v := 0) hx hb d_Mo_parts_79 (by decide) ?_
      obtain ⟨hi, hk⟩ := hk
      have hFc := nm_free hD hS hA
      refine va_callv (va_runV (As := [.int 5, .int 0, .int 0]) (rest := []) ⟨hx, hb, hml, hown, hts⟩ (t_push l G _ mo ad (m_push ((m_emit (nm_a (m_goOn x) 28 a1 ((m_goOn x).1 25)) 6 0 ((m_goOn x).1 22)).1) 2 a2 0) 5 0 0 hi) (cwV 3 hts (nn_gV mw_1028 mw_1025 mw_1027 mw_46 mw_94) rfl rfl rfl (by decide +kernel) ⟨Nat.le_of_ble_eq_true rfl, Nat.le_of_ble_eq_true rfl⟩) (nn_preV (va_recv hK hP rfl (q0 := 0) rfl) hP hD hK hN) rfl rfl hl.1 rfl (lv_room (Nat.le_of_ble_eq_true rfl)) d_Mo_parts_80 ⟨Nat.le_of_ble_eq_true rfl, Nat.le_of_ble_eq_true rfl⟩) hS (fun q _ h => hFc q h) hFc (fun u t H locs ht hvm hw hB hz1 hk1 hS => ?_)
      obtain ⟨hP1, hD1⟩ := hB
      rw [ht] at hP1
      have hP := hP1
      have hD := hD1.weaken (fun _ _ _ h => hFc _ h)
      refine lv_aload_n hx hb d_Mo_parts_83 rfl (lv_at hl 1 rfl) ?_
      refine lv_bipush (v := 6) hx hb d_Mo_parts_84 (by decide) ?_
      refine lv_iconst (v := 0) hx hb d_Mo_parts_86 (by decide) ?_
      refine lv_iconst (v := 0) hx hb d_Mo_parts_87 (by decide) ?_
      obtain ⟨hi, hk⟩ := hk
      have hFc := nm_free hD hS hA
      refine va_callv (va_runV (As := [.int 6, .int 0, .int 0]) (rest := []) ⟨hx, hb, hml, hown, hts⟩ (t_push l G _ mo ad (m_push (m_push ((m_emit (nm_a (m_goOn x) 28 a1 ((m_goOn x).1 25)) 6 0 ((m_goOn x).1 22)).1) 2 a2 0) 5 0 0) 6 0 0 hi) (cwV 3 hts (nn_gV mw_1028 mw_1025 mw_1027 mw_46 mw_94) rfl rfl rfl (by decide +kernel) ⟨Nat.le_of_ble_eq_true rfl, Nat.le_of_ble_eq_true rfl⟩) (nn_preV (va_recv hK hP rfl (q0 := 0) rfl) hP hD hK hN) rfl rfl hl.1 rfl (lv_room (Nat.le_of_ble_eq_true rfl)) d_Mo_parts_88 ⟨Nat.le_of_ble_eq_true rfl, Nat.le_of_ble_eq_true rfl⟩) hS (fun q _ h => hFc q h) hFc (fun u t H locs ht hvm hw hB hz1 hk1 hS => ?_)
      obtain ⟨hP1, hD1⟩ := hB
      rw [ht] at hP1
      have hP := hP1
      have hD := hD1.weaken (fun _ _ _ h => hFc _ h)
      have hR : m_parts x a1 a2 = m_push (m_push (m_push ((m_emit (nm_a (m_goOn x) 28 a1 ((m_goOn x).1 25)) 6 0 ((m_goOn x).1 22)).1) 2 a2 0) 5 0 0) 6 0 0 := by rw [m_parts]; rw [if_neg hc5]; rw [if_pos hc28]
      refine nm_W1 hR ?_
      exact W.vret hx hb hr (fun t ht hW => ⟨⟨(), rfl, trivial, ⟨by rw [ht]; exact hP, hD⟩⟩, hS.F ht⟩) hS.2.2 d_Mo_parts_91
    · skip
      have hk := hk.2 hc28
      refine lv_aload_n hx hb d_Mo_parts_31 rfl (lv_at hl 0 rfl) ?_
      refine lv_iconst (v := 1) hx hb d_Mo_parts_32 (by decide) ?_
      refine lv_aload_n hx hb d_Mo_parts_33 rfl (lv_at hl 0 rfl) ?_
      refine nm_get hx hb hg hown hK hP 4 (by decide) (by decide) (hg _ mw_894) d_Mo_parts_34 ?_
      have hFc := nm_free hD hS hA
      refine va_callv (va_runV (As := [.int 1, .int (x.1 4)]) (rest := []) ⟨hx, hb, hml, hown, hts⟩ (t_fail l G _ mo ad x 1 (x.1 4)) (cwV 2 hts (nn_gV mw_1080 mw_1077 mw_1079 mw_56 mw_94) rfl rfl rfl (by decide +kernel) ⟨Nat.le_of_ble_eq_true rfl, Nat.le_of_ble_eq_true rfl⟩) (nn_preV (va_recv hK hP rfl (q0 := 0) rfl) hP hD hK hN) rfl rfl hl.1 rfl (lv_room (Nat.le_of_ble_eq_true rfl)) d_Mo_parts_37 ⟨Nat.le_of_ble_eq_true rfl, Nat.le_of_ble_eq_true rfl⟩) hS (fun q _ h => hFc q h) hFc (fun u t H locs ht hvm hw hB hz1 hk1 hS => ?_)
      obtain ⟨hP1, hD1⟩ := hB
      rw [ht] at hP1
      have hP := hP1
      have hD := hD1.weaken (fun _ _ _ h => hFc _ h)
      refine lv_goto (tgt := 91) hx hb d_Mo_parts_40 rfl ?_
      have hR : m_parts x a1 a2 = m_fail x 1 (x.1 4) := by rw [m_parts]; rw [if_neg hc5]; rw [if_neg hc28]
      refine nm_W1 hR ?_
      exact W.vret hx hb hr (fun t ht hW => ⟨⟨(), rfl, trivial, ⟨by rw [ht]; exact hP, hD⟩⟩, hS.F ht⟩) hS.2.2 d_Mo_parts_91
  · skip
    have hk := hk.1 hc5
    refine lv_aload_n hx hb d_Mo_parts_8 rfl (lv_at hl 0 rfl) ?_
    refine lv_iconst (v := 1) hx hb d_Mo_parts_9 (by decide) ?_
    refine lv_iload_n hx hb d_Mo_parts_10 rfl (lv_at hl 1 rfl) ?_
    refine lv_iload_n hx hb d_Mo_parts_11 rfl (lv_at hl 2 rfl) ?_
    obtain ⟨hi, hk⟩ := hk
    have hFc := nm_free hD hS hA
    refine va_callv (va_runV (As := [.int 1, .int a1, .int a2]) (rest := []) ⟨hx, hb, hml, hown, hts⟩ (t_push l G _ mo ad x 1 a1 a2 hi) (cwV 3 hts (nn_gV mw_1028 mw_1025 mw_1027 mw_46 mw_94) rfl rfl rfl (by decide +kernel) ⟨Nat.le_of_ble_eq_true rfl, Nat.le_of_ble_eq_true rfl⟩) (nn_preV (va_recv hK hP rfl (q0 := 0) rfl) hP hD hK hN) rfl rfl hl.1 rfl (lv_room (Nat.le_of_ble_eq_true rfl)) d_Mo_parts_12 ⟨Nat.le_of_ble_eq_true rfl, Nat.le_of_ble_eq_true rfl⟩) hS (fun q _ h => hFc q h) hFc (fun u t H locs ht hvm hw hB hz1 hk1 hS => ?_)
    obtain ⟨hP1, hD1⟩ := hB
    rw [ht] at hP1
    have hP := hP1
    have hD := hD1.weaken (fun _ _ _ h => hFc _ h)
    refine lv_aload_n hx hb d_Mo_parts_15 rfl (lv_at hl 0 rfl) ?_
    obtain ⟨hi, hk⟩ := hk
    have hFc := nm_free hD hS hA
    refine va_callv (va_runV (As := []) (rest := []) ⟨hx, hb, hml, hown, hts⟩ (t_procedure l G _ mo ad (m_push x 1 a1 a2) hi) (cwV 0 hts (nn_gV mw_1092 mw_1089 mw_1091 mw_59 mw_94) rfl rfl rfl (by decide +kernel) ⟨Nat.le_of_ble_eq_true rfl, Nat.le_of_ble_eq_true rfl⟩) (nn_preV (va_recv hK hP rfl (q0 := 0) rfl) hP hD hK hN) rfl rfl hl.1 rfl (lv_room (Nat.le_of_ble_eq_true rfl)) d_Mo_parts_16 ⟨Nat.le_of_ble_eq_true rfl, Nat.le_of_ble_eq_true rfl⟩) hS (fun q _ h => hFc q h) hFc (fun u t H locs ht hvm hw hB hz1 hk1 hS => ?_)
    obtain ⟨hP1, hD1⟩ := hB
    rw [ht] at hP1
    have hP := hP1
    have hD := hD1.weaken (fun _ _ _ h => hFc _ h)
    refine lv_goto (tgt := 91) hx hb d_Mo_parts_19 rfl ?_
    have hR : m_parts x a1 a2 = m_procedure (m_push x 1 a1 a2) := by rw [m_parts]; rw [if_pos hc5]
    refine nm_W1 hR ?_
    exact W.vret hx hb hr (fun t ht hW => ⟨⟨(), rfl, trivial, ⟨by rw [ht]; exact hP, hD⟩⟩, hS.F ht⟩) hS.2.2 d_Mo_parts_91

theorem d_Mo_takesElse_0 : decode b_Mo_takesElse 0 = .ok (.aload_n 0, 1) := by decide +kernel
theorem d_Mo_takesElse_1 : decode b_Mo_takesElse 1 = .ok (.getfield 136, 3) := by decide +kernel
theorem d_Mo_takesElse_4 : decode b_Mo_takesElse 4 = .ok (.iconst 1, 1) := by decide +kernel
theorem d_Mo_takesElse_5 : decode b_Mo_takesElse 5 = .ok (.isub, 1) := by decide +kernel
theorem d_Mo_takesElse_6 : decode b_Mo_takesElse 6 = .ok (.istore_n 1, 1) := by decide +kernel
theorem d_Mo_takesElse_7 : decode b_Mo_takesElse 7 = .ok (.iload_n 1, 1) := by decide +kernel
theorem d_Mo_takesElse_8 : decode b_Mo_takesElse 8 = .ok (.ifCond .lt 31, 3) := by decide +kernel
theorem d_Mo_takesElse_11 : decode b_Mo_takesElse 11 = .ok (.aload_n 0, 1) := by decide +kernel
theorem d_Mo_takesElse_12 : decode b_Mo_takesElse 12 = .ok (.getfield 20, 3) := by decide +kernel
theorem d_Mo_takesElse_15 : decode b_Mo_takesElse 15 = .ok (.iload_n 1, 1) := by decide +kernel
theorem d_Mo_takesElse_16 : decode b_Mo_takesElse 16 = .ok (.iaload, 1) := by decide +kernel
theorem d_Mo_takesElse_17 : decode b_Mo_takesElse 17 = .ok (.bipush 10, 2) := by decide +kernel
theorem d_Mo_takesElse_19 : decode b_Mo_takesElse 19 = .ok (.if_icmp .eq 14, 3) := by decide +kernel
theorem d_Mo_takesElse_22 : decode b_Mo_takesElse 22 = .ok (.aload_n 0, 1) := by decide +kernel
theorem d_Mo_takesElse_23 : decode b_Mo_takesElse 23 = .ok (.getfield 20, 3) := by decide +kernel
theorem d_Mo_takesElse_26 : decode b_Mo_takesElse 26 = .ok (.iload_n 1, 1) := by decide +kernel
theorem d_Mo_takesElse_27 : decode b_Mo_takesElse 27 = .ok (.iaload, 1) := by decide +kernel
theorem d_Mo_takesElse_28 : decode b_Mo_takesElse 28 = .ok (.bipush 12, 2) := by decide +kernel
theorem d_Mo_takesElse_30 : decode b_Mo_takesElse 30 = .ok (.if_icmp .ne 9, 3) := by decide +kernel
theorem d_Mo_takesElse_33 : decode b_Mo_takesElse 33 = .ok (.iinc 1 (-1), 3) := by decide +kernel
theorem d_Mo_takesElse_36 : decode b_Mo_takesElse 36 = .ok (.goto (-29), 3) := by decide +kernel
theorem d_Mo_takesElse_39 : decode b_Mo_takesElse 39 = .ok (.iload_n 1, 1) := by decide +kernel
theorem d_Mo_takesElse_40 : decode b_Mo_takesElse 40 = .ok (.ifCond .lt 18, 3) := by decide +kernel
theorem d_Mo_takesElse_43 : decode b_Mo_takesElse 43 = .ok (.aload_n 0, 1) := by decide +kernel
theorem d_Mo_takesElse_44 : decode b_Mo_takesElse 44 = .ok (.getfield 20, 3) := by decide +kernel
theorem d_Mo_takesElse_47 : decode b_Mo_takesElse 47 = .ok (.iload_n 1, 1) := by decide +kernel
theorem d_Mo_takesElse_48 : decode b_Mo_takesElse 48 = .ok (.iaload, 1) := by decide +kernel
theorem d_Mo_takesElse_49 : decode b_Mo_takesElse 49 = .ok (.bipush 9, 2) := by decide +kernel
theorem d_Mo_takesElse_51 : decode b_Mo_takesElse 51 = .ok (.if_icmp .ne 7, 3) := by decide +kernel
theorem d_Mo_takesElse_54 : decode b_Mo_takesElse 54 = .ok (.iconst 1, 1) := by decide +kernel
theorem d_Mo_takesElse_55 : decode b_Mo_takesElse 55 = .ok (.goto 4, 3) := by decide +kernel
theorem d_Mo_takesElse_58 : decode b_Mo_takesElse 58 = .ok (.iconst 0, 1) := by decide +kernel
theorem d_Mo_takesElse_59 : decode b_Mo_takesElse 59 = .ok (.ireturn, 1) := by decide +kernel

def k_takesElse_58 (x : nM)  : Int32 := 0
def p_takesElse_58 (x : nM)  : Prop := True
def k_takesElse_39 (x : nM) (v1 : Int32) : Int32 := (if v1 < 0 then k_takesElse_58 x else (if nm_g x 12 v1 = 9 then 1 else k_takesElse_58 x))
def p_takesElse_39 (x : nM) (v1 : Int32) : Prop := ((v1 < 0 → p_takesElse_58 x) ∧ (¬ (v1 < 0) → vp_in v1 260 ∧ ((nm_g x 12 v1 = 9 → True) ∧ (¬ (nm_g x 12 v1 = 9) → p_takesElse_58 x))))
def k_takesElse_7 : Nat → nM → Int32 → Int32
  | 0, _, _ => 0
  | n + 1, x, v1 => (if v1 < 0 then k_takesElse_39 x v1 else (if nm_g x 12 v1 = 10 then k_takesElse_7 n x (v1 + (-1)) else (if nm_g x 12 v1 = 12 then k_takesElse_7 n x (v1 + (-1)) else k_takesElse_39 x v1)))
def p_takesElse_7 : Nat → nM → Int32 → Prop
  | 0, _, _ => False
  | n + 1, x, v1 => ((v1 < 0 → p_takesElse_39 x v1) ∧ (¬ (v1 < 0) → vp_in v1 260 ∧ ((nm_g x 12 v1 = 10 → p_takesElse_7 n x (v1 + (-1))) ∧ (¬ (nm_g x 12 v1 = 10) → vp_in v1 260 ∧ ((nm_g x 12 v1 = 12 → p_takesElse_7 n x (v1 + (-1))) ∧ (¬ (nm_g x 12 v1 = 12) → p_takesElse_39 x v1))))))
def m_takesElse (x : nM)  : Int32 := k_takesElse_7 300 x ((x.1 11) - 1)
def o_takesElse (x : nM)  : Prop := p_takesElse_7 300 x ((x.1 11) - 1)
set_option maxHeartbeats 4000000 in
set_option maxRecDepth 100000 in
theorem t_takesElse (l : Launch) (G : nn_G) (sz : Nat) (mo : Nat) (ad : Nat → Nat) (x : nM)  (hk : o_takesElse x) : Met l y_Mo_takesElse w_Mo_takesElse ({ frames := 0, cells := 0, slots := 0, locals := 0 }) (nn_P G [.ref mo] (nm_W G mo ad x) sz) (vp_Si (fun r => r = m_takesElse x)) 0 0 (fun _ => False) := by
  refine Met.ofW (cc := b_Mo_takesElse) (maxL := 2) (ret := some .boolean) (by decide) rfl ?_
  intro p e s m args below meth c s₁ B hml hv
  obtain ⟨rfl, hsz, hP, hK, hD0, hN⟩ := hv
  have hx := B.exec
  have hb := B.bytes
  have hr := B.returns
  have hts := atoms_spec (ws := w_Mo_takesElse) B.pre
  have hg : ∀ w ∈ nn_gw, w.before _ s = true := fun w h => hts w (List.mem_cons_of_mem _ h)
  have hown : s.vm.findClass R_Mo = some m.cls := findClass_of_methodNamed B.named
  subst hsz
  have hD := hD0
  have hP : va_P G.1 nn_cls (nm_W G mo ad x) s.heap := hP
  have hl := lv_entry ([.ref mo]) (n := 2) (Nat.le_of_ble_eq_true rfl)
  rw [lg_entry_eq]
  generalize (lg_sl ([.ref mo]) ++ List.replicate (2 - (lg_sl ([.ref mo])).length) Slot.unset).toArray = ls at hl ⊢
  have hl : lv_has ls 2 [(0, .ref mo)] := hl
  have J58 : ∀  (ls : Array Slot), p_takesElse_58 x → lv_has ls 2 [] → W p l e (headSpec w_Mo_takesElse ({ frames := 0, cells := 0, slots := 0, locals := 0 })).room s m [.ref mo].toArray below meth c s.heap [] 0 0 (MQ below (vp_Si (fun r => r = k_takesElse_58 x)) [.ref mo].toArray s 0 0 (fun _ => False)) (F0 m 58 ls []) := by
    intro  ls hk hl
    unfold p_takesElse_58 at hk
    refine lv_iconst (v := 0) hx hb d_Mo_takesElse_58 (by decide) ?_
    have hR : k_takesElse_58 x = 0 := by rw [k_takesElse_58]
    exact W.zret (v := 0) hx hb hr rfl (fun t ht hW => ⟨0, rfl, hR.symm, ht⟩) (fun q h => by cases h) d_Mo_takesElse_59
  have J39 : ∀ (v1 : Int32) (ls : Array Slot), p_takesElse_39 x v1 → lv_has ls 2 [(0, .ref mo), (1, .int v1)] → W p l e (headSpec w_Mo_takesElse ({ frames := 0, cells := 0, slots := 0, locals := 0 })).room s m [.ref mo].toArray below meth c s.heap [] 0 0 (MQ below (vp_Si (fun r => r = k_takesElse_39 x v1)) [.ref mo].toArray s 0 0 (fun _ => False)) (F0 m 39 ls []) := by
    intro v1 ls hk hl
    unfold p_takesElse_39 at hk
    refine lv_iload_n hx hb d_Mo_takesElse_39 rfl (lv_at hl 1 rfl) ?_
    refine lv_if_lt (tgt := 58) hx hb d_Mo_takesElse_40 rfl (fun hc40 => ?_) (fun hc40 => ?_)
    · skip
      have hk := hk.1 hc40
      have hl := lv_sub (l' := []) hl [] rfl
      have hR : k_takesElse_39 x v1 = k_takesElse_58 x := by rw [k_takesElse_39]; rw [if_pos hc40]
      exact nm_W3 hR (J58 ls hk hl)
    · skip
      have hk := hk.2 hc40
      refine lv_aload_n hx hb d_Mo_takesElse_43 rfl (lv_at hl 0 rfl) ?_
      refine nm_getA hx hb hg hown hK hP 12 (by decide) (by decide) (hg _ mw_902) d_Mo_takesElse_44 ?_
      refine lv_iload_n hx hb d_Mo_takesElse_47 rfl (lv_at hl 1 rfl) ?_
      obtain ⟨hi, hk⟩ := hk
      refine nm_ld hx hb hK hP 12 1 rfl (by decide) hi d_Mo_takesElse_48 ?_
      refine lv_bipush (v := 9) hx hb d_Mo_takesElse_49 (by decide) ?_
      refine lv_icmp_ne (tgt := 58) hx hb d_Mo_takesElse_51 rfl (fun hc51 => ?_) (fun hc51 => ?_)
      · skip
        have hk := hk.2 hc51
        have hl := lv_sub (l' := []) hl [] rfl
        have hR : k_takesElse_39 x v1 = k_takesElse_58 x := by rw [k_takesElse_39]; rw [if_neg hc40]; rw [if_neg hc51]
        exact nm_W3 hR (J58 ls hk hl)
      · skip
        have hk := hk.1 hc51
        refine lv_iconst (v := 1) hx hb d_Mo_takesElse_54 (by decide) ?_
        refine lv_goto (tgt := 59) hx hb d_Mo_takesElse_55 rfl ?_
        have hR : k_takesElse_39 x v1 = 1 := by rw [k_takesElse_39]; rw [if_neg hc40]; rw [if_pos hc51]
        exact W.zret (v := 1) hx hb hr rfl (fun t ht hW => ⟨1, rfl, hR.symm, ht⟩) (fun q h => by cases h) d_Mo_takesElse_59
  have J7 : ∀ (n : Nat) (v1 : Int32) (ls : Array Slot), p_takesElse_7 n x v1 → lv_has ls 2 [(0, .ref mo), (1, .int v1)] → W p l e (headSpec w_Mo_takesElse ({ frames := 0, cells := 0, slots := 0, locals := 0 })).room s m [.ref mo].toArray below meth c s.heap [] 0 0 (MQ below (vp_Si (fun r => r = k_takesElse_7 n x v1)) [.ref mo].toArray s 0 0 (fun _ => False)) (F0 m 7 ls []) := by
    intro n
    induction n with
    | zero =>
      intro v1 ls hk
      exact (show False from hk).elim
    | succ n ih =>
      intro v1 ls hk hl
      unfold p_takesElse_7 at hk
      refine lv_iload_n hx hb d_Mo_takesElse_7 rfl (lv_at hl 1 rfl) ?_
      refine lv_if_lt (tgt := 39) hx hb d_Mo_takesElse_8 rfl (fun hc8 => ?_) (fun hc8 => ?_)
      · skip
        have hk := hk.1 hc8
        have hl := lv_sub (l' := [(0, .ref mo), (1, .int v1)]) hl [0, 1] rfl
        have hR : k_takesElse_7 (n + 1) x v1 = k_takesElse_39 x v1 := by rw [k_takesElse_7]; rw [if_pos hc8]
        exact nm_W3 hR (J39 v1 ls hk hl)
      · skip
        have hk := hk.2 hc8
        refine lv_aload_n hx hb d_Mo_takesElse_11 rfl (lv_at hl 0 rfl) ?_
        refine nm_getA hx hb hg hown hK hP 12 (by decide) (by decide) (hg _ mw_902) d_Mo_takesElse_12 ?_
        refine lv_iload_n hx hb d_Mo_takesElse_15 rfl (lv_at hl 1 rfl) ?_
        obtain ⟨hi, hk⟩ := hk
        refine nm_ld hx hb hK hP 12 1 rfl (by decide) hi d_Mo_takesElse_16 ?_
        refine lv_bipush (v := 10) hx hb d_Mo_takesElse_17 (by decide) ?_
        refine lv_icmp_eq (tgt := 33) hx hb d_Mo_takesElse_19 rfl (fun hc19 => ?_) (fun hc19 => ?_)
        · skip
          have hk := hk.1 hc19
          refine lv_iinc (k := 1) (v := v1 + (-1)) (lv' := [(1, .int (v1 + (-1))), (0, .ref mo)]) hx hb d_Mo_takesElse_33 hl rfl (by rw [show Int32.ofInt (-1) = (-1 : Int32) by decide]) (by decide) rfl (fun ls hl => ?_)
          refine lv_goto (tgt := 7) hx hb d_Mo_takesElse_36 rfl ?_
          have hl := lv_sub (l' := [(0, .ref mo), (1, .int (v1 + (-1)))]) hl [1, 0] rfl
          have hR : k_takesElse_7 (n + 1) x v1 = k_takesElse_7 n x (v1 + (-1)) := by rw [k_takesElse_7]; rw [if_neg hc8]; rw [if_pos hc19]
          exact nm_W3 hR (ih (v1 + (-1)) ls hk hl)
        · skip
          have hk := hk.2 hc19
          refine lv_aload_n hx hb d_Mo_takesElse_22 rfl (lv_at hl 0 rfl) ?_
          refine nm_getA hx hb hg hown hK hP 12 (by decide) (by decide) (hg _ mw_902) d_Mo_takesElse_23 ?_
          refine lv_iload_n hx hb d_Mo_takesElse_26 rfl (lv_at hl 1 rfl) ?_
          obtain ⟨hi, hk⟩ := hk
          refine nm_ld hx hb hK hP 12 1 rfl (by decide) hi d_Mo_takesElse_27 ?_
          refine lv_bipush (v := 12) hx hb d_Mo_takesElse_28 (by decide) ?_
          refine lv_icmp_ne (tgt := 39) hx hb d_Mo_takesElse_30 rfl (fun hc30 => ?_) (fun hc30 => ?_)
          · skip
            have hk := hk.2 hc30
            have hl := lv_sub (l' := [(0, .ref mo), (1, .int v1)]) hl [0, 1] rfl
            have hR : k_takesElse_7 (n + 1) x v1 = k_takesElse_39 x v1 := by rw [k_takesElse_7]; rw [if_neg hc8]; rw [if_neg hc19]; rw [if_neg hc30]
            exact nm_W3 hR (J39 v1 ls hk hl)
          · skip
            have hk := hk.1 hc30
            refine lv_iinc (k := 1) (v := v1 + (-1)) (lv' := [(1, .int (v1 + (-1))), (0, .ref mo)]) hx hb d_Mo_takesElse_33 hl rfl (by rw [show Int32.ofInt (-1) = (-1 : Int32) by decide]) (by decide) rfl (fun ls hl => ?_)
            refine lv_goto (tgt := 7) hx hb d_Mo_takesElse_36 rfl ?_
            have hl := lv_sub (l' := [(0, .ref mo), (1, .int (v1 + (-1)))]) hl [1, 0] rfl
            have hR : k_takesElse_7 (n + 1) x v1 = k_takesElse_7 n x (v1 + (-1)) := by rw [k_takesElse_7]; rw [if_neg hc8]; rw [if_neg hc19]; rw [if_pos hc30]
            exact nm_W3 hR (ih (v1 + (-1)) ls hk hl)
  unfold o_takesElse at hk
  refine lv_aload_n hx hb d_Mo_takesElse_0 rfl (lv_at hl 0 rfl) ?_
  refine nm_get hx hb hg hown hK hP 11 (by decide) (by decide) (hg _ mw_901) d_Mo_takesElse_1 ?_
  refine lv_iconst (v := 1) hx hb d_Mo_takesElse_4 (by decide) ?_
  refine lv_isub hx hb d_Mo_takesElse_5 ?_
  refine lv_istore_n (lv' := [(1, .int ((x.1 11) - 1)), (0, .ref mo)]) hx hb d_Mo_takesElse_6 rfl hl (by decide) rfl (fun ls hl => ?_)
  have hl := lv_sub (l' := [(0, .ref mo), (1, .int ((x.1 11) - 1))]) hl [1, 0] rfl
  have hR : m_takesElse x = k_takesElse_7 300 x ((x.1 11) - 1) := by rw [m_takesElse]
  exact nm_W3 hR (J7 300 ((x.1 11) - 1) ls hk hl)

theorem mw_65 : (.selects R_Mo y_Mo_open y_Mo_open : Cond) ∈ nn_gw := nn_at 65 (by decide +kernel) (by decide +kernel)
theorem mw_66 : (.selects R_Mo y_Mo_takesElse y_Mo_takesElse : Cond) ∈ nn_gw := nn_at 66 (by decide +kernel) (by decide +kernel)
theorem mw_67 : (.selects R_Mo y_Mo_links y_Mo_links : Cond) ∈ nn_gw := nn_at 67 (by decide +kernel) (by decide +kernel)
theorem mw_1113 : (.methodLink R_Mo 168 y_Mo_open : Cond) ∈ nn_gw := nn_at 1113 (by decide +kernel) (by decide +kernel)
theorem mw_1115 : (.instanceMethod y_Mo_open : Cond) ∈ nn_gw := nn_at 1115 (by decide +kernel) (by decide +kernel)
set_option maxRecDepth 100000 in
theorem mw_1116 : (.code y_Mo_open b_Mo_open 1 none : Cond) ∈ nn_gw := nn_at 1116 (by rfl) (by decide +kernel)
theorem mw_1117 : (.methodLink R_Mo 171 y_Mo_takesElse : Cond) ∈ nn_gw := nn_at 1117 (by decide +kernel) (by decide +kernel)
theorem mw_1119 : (.instanceMethod y_Mo_takesElse : Cond) ∈ nn_gw := nn_at 1119 (by decide +kernel) (by decide +kernel)
set_option maxRecDepth 100000 in
theorem mw_1120 : (.code y_Mo_takesElse b_Mo_takesElse 2 (some .boolean) : Cond) ∈ nn_gw := nn_at 1120 (by rfl) (by decide +kernel)
theorem mw_1121 : (.methodLink R_Mo 175 y_Mo_links : Cond) ∈ nn_gw := nn_at 1121 (by decide +kernel) (by decide +kernel)
theorem mw_1123 : (.instanceMethod y_Mo_links : Cond) ∈ nn_gw := nn_at 1123 (by decide +kernel) (by decide +kernel)
set_option maxRecDepth 100000 in
theorem mw_1124 : (.code y_Mo_links b_Mo_links 2 (some .int) : Cond) ∈ nn_gw := nn_at 1124 (by rfl) (by decide +kernel)
theorem d_Mo_call_0 : decode b_Mo_call 0 = .ok (.aload_n 0, 1) := by decide +kernel
theorem d_Mo_call_1 : decode b_Mo_call 1 = .ok (.invokevirtual 117, 3) := by decide +kernel
theorem d_Mo_call_4 : decode b_Mo_call 4 = .ok (.aload_n 0, 1) := by decide +kernel
theorem d_Mo_call_5 : decode b_Mo_call 5 = .ok (.getfield 88, 3) := by decide +kernel
theorem d_Mo_call_8 : decode b_Mo_call 8 = .ok (.bipush 40, 2) := by decide +kernel
theorem d_Mo_call_10 : decode b_Mo_call 10 = .ok (.if_icmp .ne 51, 3) := by decide +kernel
theorem d_Mo_call_13 : decode b_Mo_call 13 = .ok (.aload_n 0, 1) := by decide +kernel
theorem d_Mo_call_14 : decode b_Mo_call 14 = .ok (.getfield 139, 3) := by decide +kernel
theorem d_Mo_call_17 : decode b_Mo_call 17 = .ok (.bipush 6, 2) := by decide +kernel
theorem d_Mo_call_19 : decode b_Mo_call 19 = .ok (.if_icmp .ge 21, 3) := by decide +kernel
theorem d_Mo_call_22 : decode b_Mo_call 22 = .ok (.aload_n 0, 1) := by decide +kernel
theorem d_Mo_call_23 : decode b_Mo_call 23 = .ok (.getfield 42, 3) := by decide +kernel
theorem d_Mo_call_26 : decode b_Mo_call 26 = .ok (.iload_n 1, 1) := by decide +kernel
theorem d_Mo_call_27 : decode b_Mo_call 27 = .ok (.iaload, 1) := by decide +kernel
theorem d_Mo_call_28 : decode b_Mo_call 28 = .ok (.ifCond .ne 12, 3) := by decide +kernel
theorem d_Mo_call_31 : decode b_Mo_call 31 = .ok (.aload_n 0, 1) := by decide +kernel
theorem d_Mo_call_32 : decode b_Mo_call 32 = .ok (.iconst 5, 1) := by decide +kernel
theorem d_Mo_call_33 : decode b_Mo_call 33 = .ok (.aload_n 0, 1) := by decide +kernel
theorem d_Mo_call_34 : decode b_Mo_call 34 = .ok (.getfield 78, 3) := by decide +kernel
theorem d_Mo_call_37 : decode b_Mo_call 37 = .ok (.invokevirtual 120, 3) := by decide +kernel
theorem d_Mo_call_40 : decode b_Mo_call 40 = .ok (.aload_n 0, 1) := by decide +kernel
theorem d_Mo_call_41 : decode b_Mo_call 41 = .ok (.invokevirtual 168, 3) := by decide +kernel
theorem d_Mo_call_44 : decode b_Mo_call 44 = .ok (.aload_n 0, 1) := by decide +kernel
theorem d_Mo_call_45 : decode b_Mo_call 45 = .ok (.bipush 22, 2) := by decide +kernel
theorem d_Mo_call_47 : decode b_Mo_call 47 = .ok (.iload_n 1, 1) := by decide +kernel
theorem d_Mo_call_48 : decode b_Mo_call 48 = .ok (.iconst 1, 1) := by decide +kernel
theorem d_Mo_call_49 : decode b_Mo_call 49 = .ok (.invokevirtual 162, 3) := by decide +kernel
theorem d_Mo_call_52 : decode b_Mo_call 52 = .ok (.aload_n 0, 1) := by decide +kernel
theorem d_Mo_call_53 : decode b_Mo_call 53 = .ok (.bipush 14, 2) := by decide +kernel
theorem d_Mo_call_55 : decode b_Mo_call 55 = .ok (.iconst 0, 1) := by decide +kernel
theorem d_Mo_call_56 : decode b_Mo_call 56 = .ok (.iconst 0, 1) := by decide +kernel
theorem d_Mo_call_57 : decode b_Mo_call 57 = .ok (.invokevirtual 162, 3) := by decide +kernel
theorem d_Mo_call_60 : decode b_Mo_call 60 = .ok (.return_, 1) := by decide +kernel
theorem d_Mo_call_61 : decode b_Mo_call 61 = .ok (.aload_n 0, 1) := by decide +kernel
theorem d_Mo_call_62 : decode b_Mo_call 62 = .ok (.getfield 88, 3) := by decide +kernel
theorem d_Mo_call_65 : decode b_Mo_call 65 = .ok (.bipush 59, 2) := by decide +kernel
theorem d_Mo_call_67 : decode b_Mo_call 67 = .ok (.if_icmp .eq 28, 3) := by decide +kernel
theorem d_Mo_call_70 : decode b_Mo_call 70 = .ok (.aload_n 0, 1) := by decide +kernel
theorem d_Mo_call_71 : decode b_Mo_call 71 = .ok (.getfield 88, 3) := by decide +kernel
theorem d_Mo_call_74 : decode b_Mo_call 74 = .ok (.bipush 8, 2) := by decide +kernel
theorem d_Mo_call_76 : decode b_Mo_call 76 = .ok (.if_icmp .eq 19, 3) := by decide +kernel
theorem d_Mo_call_79 : decode b_Mo_call 79 = .ok (.aload_n 0, 1) := by decide +kernel
theorem d_Mo_call_80 : decode b_Mo_call 80 = .ok (.getfield 88, 3) := by decide +kernel
theorem d_Mo_call_83 : decode b_Mo_call 83 = .ok (.bipush 11, 2) := by decide +kernel
theorem d_Mo_call_85 : decode b_Mo_call 85 = .ok (.if_icmp .ne 14, 3) := by decide +kernel
theorem d_Mo_call_88 : decode b_Mo_call 88 = .ok (.aload_n 0, 1) := by decide +kernel
theorem d_Mo_call_89 : decode b_Mo_call 89 = .ok (.invokevirtual 171, 3) := by decide +kernel
theorem d_Mo_call_92 : decode b_Mo_call 92 = .ok (.ifCond .eq 7, 3) := by decide +kernel
theorem d_Mo_call_95 : decode b_Mo_call 95 = .ok (.iconst 1, 1) := by decide +kernel
theorem d_Mo_call_96 : decode b_Mo_call 96 = .ok (.goto 4, 3) := by decide +kernel
theorem d_Mo_call_99 : decode b_Mo_call 99 = .ok (.iconst 0, 1) := by decide +kernel
theorem d_Mo_call_100 : decode b_Mo_call 100 = .ok (.istore_n 2, 1) := by decide +kernel
theorem d_Mo_call_101 : decode b_Mo_call 101 = .ok (.aload_n 0, 1) := by decide +kernel
theorem d_Mo_call_102 : decode b_Mo_call 102 = .ok (.getfield 42, 3) := by decide +kernel
theorem d_Mo_call_105 : decode b_Mo_call 105 = .ok (.iload_n 1, 1) := by decide +kernel
theorem d_Mo_call_106 : decode b_Mo_call 106 = .ok (.iaload, 1) := by decide +kernel
theorem d_Mo_call_107 : decode b_Mo_call 107 = .ok (.ifCond .le 20, 3) := by decide +kernel
theorem d_Mo_call_110 : decode b_Mo_call 110 = .ok (.aload_n 0, 1) := by decide +kernel
theorem d_Mo_call_111 : decode b_Mo_call 111 = .ok (.iload_n 2, 1) := by decide +kernel
theorem d_Mo_call_112 : decode b_Mo_call 112 = .ok (.ifCond .eq 7, 3) := by decide +kernel
theorem d_Mo_call_115 : decode b_Mo_call 115 = .ok (.iconst 5, 1) := by decide +kernel
theorem d_Mo_call_116 : decode b_Mo_call 116 = .ok (.goto 4, 3) := by decide +kernel
theorem d_Mo_call_119 : decode b_Mo_call 119 = .ok (.iconst 1, 1) := by decide +kernel
theorem d_Mo_call_120 : decode b_Mo_call 120 = .ok (.aload_n 0, 1) := by decide +kernel
theorem d_Mo_call_121 : decode b_Mo_call 121 = .ok (.getfield 78, 3) := by decide +kernel
theorem d_Mo_call_124 : decode b_Mo_call 124 = .ok (.invokevirtual 120, 3) := by decide +kernel
theorem d_Mo_call_127 : decode b_Mo_call 127 = .ok (.aload_n 0, 1) := by decide +kernel
theorem d_Mo_call_128 : decode b_Mo_call 128 = .ok (.iconst 5, 1) := by decide +kernel
theorem d_Mo_call_129 : decode b_Mo_call 129 = .ok (.aload_n 0, 1) := by decide +kernel
theorem d_Mo_call_130 : decode b_Mo_call 130 = .ok (.iload_n 1, 1) := by decide +kernel
theorem d_Mo_call_131 : decode b_Mo_call 131 = .ok (.invokevirtual 175, 3) := by decide +kernel
theorem d_Mo_call_134 : decode b_Mo_call 134 = .ok (.aload_n 0, 1) := by decide +kernel
theorem d_Mo_call_135 : decode b_Mo_call 135 = .ok (.getfield 39, 3) := by decide +kernel
theorem d_Mo_call_138 : decode b_Mo_call 138 = .ok (.iload_n 1, 1) := by decide +kernel
theorem d_Mo_call_139 : decode b_Mo_call 139 = .ok (.iaload, 1) := by decide +kernel
theorem d_Mo_call_140 : decode b_Mo_call 140 = .ok (.invokevirtual 152, 3) := by decide +kernel
theorem d_Mo_call_143 : decode b_Mo_call 143 = .ok (.istore_n 3, 1) := by decide +kernel
theorem d_Mo_call_144 : decode b_Mo_call 144 = .ok (.return_, 1) := by decide +kernel

def k_call_127 (x : nM) (v1 : Int32) : nM := ((m_emit x 5 (m_links x v1) (nm_g x 19 v1)).1)
def p_call_127 (x : nM) (v1 : Int32) : Prop := o_links x v1 ∧ vp_in v1 100 ∧ o_emit x 5 (m_links x v1) (nm_g x 19 v1) ∧ True
def k_call_120 (x : nM) (v1 : Int32) (w0 : Int32) : nM := k_call_127 (m_fail x w0 (x.1 4)) v1
def p_call_120 (x : nM) (v1 : Int32) (w0 : Int32) : Prop := p_call_127 (m_fail x w0 (x.1 4)) v1
def k_call_100 (x : nM) (v1 : Int32) (w0 : Int32) : nM := (if nm_g x 20 v1 ≤ 0 then k_call_127 x v1 else (if w0 = 0 then k_call_120 x v1 1 else k_call_120 x v1 5))
def p_call_100 (x : nM) (v1 : Int32) (w0 : Int32) : Prop := vp_in v1 100 ∧ ((nm_g x 20 v1 ≤ 0 → p_call_127 x v1) ∧ (¬ (nm_g x 20 v1 ≤ 0) → ((w0 = 0 → p_call_120 x v1 1) ∧ (¬ (w0 = 0) → p_call_120 x v1 5))))
def k_call_99 (x : nM) (v1 : Int32) : nM := k_call_100 x v1 0
def p_call_99 (x : nM) (v1 : Int32) : Prop := p_call_100 x v1 0
def k_call_95 (x : nM) (v1 : Int32) : nM := k_call_100 x v1 1
def p_call_95 (x : nM) (v1 : Int32) : Prop := p_call_100 x v1 1
def k_call_40 (x : nM) (v1 : Int32) : nM := (m_push (m_push (m_open x) 22 v1 1) 14 0 0)
def p_call_40 (x : nM) (v1 : Int32) : Prop := o_open x ∧ o_push (m_open x) 22 v1 1 ∧ o_push (m_push (m_open x) 22 v1 1) 14 0 0 ∧ True
def m_call (x : nM) (a1 : Int32) : nM := (if (m_goOn x).1 3 = 40 then (if 6 ≤ (m_goOn x).1 24 then k_call_40 (m_goOn x) a1 else (if nm_g (m_goOn x) 20 a1 = 0 then k_call_40 (m_fail (m_goOn x) 5 ((m_goOn x).1 4)) a1 else k_call_40 (m_goOn x) a1)) else (if (m_goOn x).1 3 = 59 then k_call_95 (m_goOn x) a1 else (if (m_goOn x).1 3 = 8 then k_call_95 (m_goOn x) a1 else (if (m_goOn x).1 3 = 11 then (if m_takesElse (m_goOn x) = 0 then k_call_99 (m_goOn x) a1 else k_call_95 (m_goOn x) a1) else k_call_99 (m_goOn x) a1))))
def o_call (x : nM) (a1 : Int32) : Prop := o_goOn x ∧ (((m_goOn x).1 3 = 40 → ((6 ≤ (m_goOn x).1 24 → p_call_40 (m_goOn x) a1) ∧ (¬ (6 ≤ (m_goOn x).1 24) → vp_in a1 100 ∧ ((nm_g (m_goOn x) 20 a1 = 0 → p_call_40 (m_fail (m_goOn x) 5 ((m_goOn x).1 4)) a1) ∧ (¬ (nm_g (m_goOn x) 20 a1 = 0) → p_call_40 (m_goOn x) a1))))) ∧ (¬ ((m_goOn x).1 3 = 40) → (((m_goOn x).1 3 = 59 → p_call_95 (m_goOn x) a1) ∧ (¬ ((m_goOn x).1 3 = 59) → (((m_goOn x).1 3 = 8 → p_call_95 (m_goOn x) a1) ∧ (¬ ((m_goOn x).1 3 = 8) → (((m_goOn x).1 3 = 11 → o_takesElse (m_goOn x) ∧ ((m_takesElse (m_goOn x) = 0 → p_call_99 (m_goOn x) a1) ∧ (¬ (m_takesElse (m_goOn x) = 0) → p_call_95 (m_goOn x) a1))) ∧ (¬ ((m_goOn x).1 3 = 11) → p_call_99 (m_goOn x) a1))))))))
set_option maxHeartbeats 4000000 in
set_option maxRecDepth 100000 in
theorem t_call (l : Launch) (G : nn_G) (sz : Nat) (mo : Nat) (ad : Nat → Nat) (x : nM) (a1 : Int32) (hk : o_call x a1) : Met l y_Mo_call w_Mo_call ({ frames := 4, cells := 0, slots := 0, locals := 84 }) (nn_P G [.ref mo, .int a1] (nm_W G mo ad x) sz) (nm_Qv G mo ad (m_call x a1) (va_A (nm_W G mo ad x) sz)) 0 0 (va_A (nm_W G mo ad x) sz) := by
  refine Met.ofW (cc := b_Mo_call) (maxL := 4) (ret := none) (by decide) rfl ?_
  intro p e s m args below meth c s₁ B hml hv
  obtain ⟨rfl, hsz, hP, hK, hD0, hN⟩ := hv
  have hx := B.exec
  have hb := B.bytes
  have hr := B.returns
  have hts := atoms_spec (ws := w_Mo_call) B.pre
  have hg : ∀ w ∈ nn_gw, w.before _ s = true := fun w h => hts w (List.mem_cons_of_mem _ h)
  have hown : s.vm.findClass R_Mo = some m.cls := findClass_of_methodNamed B.named
  subst hsz
  have hD := hD0.self (sz := s.heap.size)
  generalize hAe : va_A (nm_W G mo ad x) s.heap.size = A at hD ⊢
  have hA : ∀ q : Nat, s.heap.size ≤ q → A q := fun q h => by rw [← hAe]; exact Or.inr h
  clear hAe
  have hS : va_S A s.heap s.heap [] := va_S.rf
  have hP : va_P G.1 nn_cls (nm_W G mo ad x) s.heap := hP
  have hl := lv_entry ([.ref mo, .int a1]) (n := 4) (Nat.le_of_ble_eq_true rfl)
  rw [lg_entry_eq]
  generalize (lg_sl ([.ref mo, .int a1]) ++ List.replicate (4 - (lg_sl ([.ref mo, .int a1])).length) Slot.unset).toArray = ls at hl ⊢
  have hl : lv_has ls 4 [(0, .ref mo), (1, .int a1)] := hl
  have J127 : ∀ (x : nM) (v1 : Int32) (ls : Array Slot) (H : Heap) (locs : List Loc), p_call_127 x v1 → lv_has ls 4 [(0, .ref mo), (1, .int v1)] → va_P G.1 nn_cls (nm_W G mo ad x) H → va_D A (nm_W G mo ad x) → va_S A s.heap H locs → W p l e (headSpec w_Mo_call ({ frames := 4, cells := 0, slots := 0, locals := 84 })).room s m [.ref mo, .int a1].toArray below meth c H locs 0 0 (MQ below (nm_Qv G mo ad (k_call_127 x v1) A) [.ref mo, .int a1].toArray s 0 0 A) (F0 m 127 ls []) := by
    intro x v1 ls H locs hk hl hP hD hS
    unfold p_call_127 at hk
    refine lv_aload_n hx hb d_Mo_call_127 rfl (lv_at hl 0 rfl) ?_
    refine lv_iconst (v := 5) hx hb d_Mo_call_128 (by decide) ?_
    refine lv_aload_n hx hb d_Mo_call_129 rfl (lv_at hl 0 rfl) ?_
    refine lv_iload_n hx hb d_Mo_call_130 rfl (lv_at hl 1 rfl) ?_
    obtain ⟨hi, hk⟩ := hk
    refine vp_callSi (va_Run.run (va_runV (As := [.int v1]) (rest := [.int 5, .ref mo]) ⟨hx, hb, hml, hown, hts⟩ (t_links l G _ mo ad x v1 hi) (cwV 1 hts (nn_gV mw_1124 mw_1121 mw_1123 mw_67 mw_94) rfl rfl rfl (by decide +kernel) ⟨Nat.le_of_ble_eq_true rfl, Nat.le_of_ble_eq_true rfl⟩) (nn_preV (va_recv hK hP rfl (q0 := 0) rfl) hP hD hK hN) rfl rfl hl.1 rfl (lv_room (Nat.le_of_ble_eq_true rfl)) d_Mo_call_131 ⟨Nat.le_of_ble_eq_true rfl, Nat.le_of_ble_eq_true rfl⟩)) (fun r1 er1 => ?_)
    subst er1
    refine lv_aload_n hx hb d_Mo_call_134 rfl (lv_at hl 0 rfl) ?_
    refine nm_getA hx hb hg hown hK hP 19 (by decide) (by decide) (hg _ mw_909) d_Mo_call_135 ?_
    refine lv_iload_n hx hb d_Mo_call_138 rfl (lv_at hl 1 rfl) ?_
    obtain ⟨hi, hk⟩ := hk
    refine nm_ld hx hb hK hP 19 7 rfl (by decide) hi d_Mo_call_139 ?_
    obtain ⟨hi, hk⟩ := hk
    have hFc := nm_free hD hS hA
    refine va_calli (va_runV (As := [.int 5, .int (m_links x v1), .int (nm_g x 19 v1)]) (rest := []) ⟨hx, hb, hml, hown, hts⟩ (t_emit l G _ mo ad x 5 (m_links x v1) (nm_g x 19 v1) hi) (cwV 3 hts (nn_gV mw_1060 mw_1057 mw_1059 mw_51 mw_94) rfl rfl rfl (by decide +kernel) ⟨Nat.le_of_ble_eq_true rfl, Nat.le_of_ble_eq_true rfl⟩) (nn_preV (va_recv hK hP rfl (q0 := 0) rfl) hP hD hK hN) rfl rfl hl.1 rfl (lv_room (Nat.le_of_ble_eq_true rfl)) d_Mo_call_140 ⟨Nat.le_of_ble_eq_true rfl, Nat.le_of_ble_eq_true rfl⟩) hS (fun q _ h => hFc q h) hFc (fun r2 u t H locs ht hvm hw hB hz1 hk1 hS => ?_)
    subst hw
    obtain ⟨hP1, hD1⟩ := hB
    rw [ht] at hP1
    have hP := hP1
    have hD := hD1.weaken (fun _ _ _ h => hFc _ h)
    refine lv_istore_n (lv' := [(3, .int ((m_emit x 5 (m_links x v1) (nm_g x 19 v1)).2)), (0, .ref mo), (1, .int v1)]) hx hb d_Mo_call_143 rfl hl (by decide) rfl (fun ls hl => ?_)
    have hR : k_call_127 x v1 = (m_emit x 5 (m_links x v1) (nm_g x 19 v1)).1 := by rw [k_call_127]
    refine nm_W1 hR ?_
    exact W.vret hx hb hr (fun t ht hW => ⟨⟨(), rfl, trivial, ⟨by rw [ht]; exact hP, hD⟩⟩, hS.F ht⟩) hS.2.2 d_Mo_call_144
  have J120 : ∀ (x : nM) (v1 : Int32) (w0 : Int32) (ls : Array Slot) (H : Heap) (locs : List Loc), p_call_120 x v1 w0 → lv_has ls 4 [(0, .ref mo), (1, .int v1)] → va_P G.1 nn_cls (nm_W G mo ad x) H → va_D A (nm_W G mo ad x) → va_S A s.heap H locs → W p l e (headSpec w_Mo_call ({ frames := 4, cells := 0, slots := 0, locals := 84 })).room s m [.ref mo, .int a1].toArray below meth c H locs 0 0 (MQ below (nm_Qv G mo ad (k_call_120 x v1 w0) A) [.ref mo, .int a1].toArray s 0 0 A) (F0 m 120 ls [.int w0, .ref mo]) := by
    intro x v1 w0 ls H locs hk hl hP hD hS
    unfold p_call_120 at hk
    refine lv_aload_n hx hb d_Mo_call_120 rfl (lv_at hl 0 rfl) ?_
    refine nm_get hx hb hg hown hK hP 4 (by decide) (by decide) (hg _ mw_894) d_Mo_call_121 ?_
    have hFc := nm_free hD hS hA
    refine va_callv (va_runV (As := [.int w0, .int (x.1 4)]) (rest := []) ⟨hx, hb, hml, hown, hts⟩ (t_fail l G _ mo ad x w0 (x.1 4)) (cwV 2 hts (nn_gV mw_1080 mw_1077 mw_1079 mw_56 mw_94) rfl rfl rfl (by decide +kernel) ⟨Nat.le_of_ble_eq_true rfl, Nat.le_of_ble_eq_true rfl⟩) (nn_preV (va_recv hK hP rfl (q0 := 0) rfl) hP hD hK hN) rfl rfl hl.1 rfl (lv_room (Nat.le_of_ble_eq_true rfl)) d_Mo_call_124 ⟨Nat.le_of_ble_eq_true rfl, Nat.le_of_ble_eq_true rfl⟩) hS (fun q _ h => hFc q h) hFc (fun u t H locs ht hvm hw hB hz1 hk1 hS => ?_)
    obtain ⟨hP1, hD1⟩ := hB
    rw [ht] at hP1
    have hP := hP1
    have hD := hD1.weaken (fun _ _ _ h => hFc _ h)
    have hl := lv_sub (l' := [(0, .ref mo), (1, .int v1)]) hl [0, 1] rfl
    have hR : k_call_120 x v1 w0 = k_call_127 (m_fail x w0 (x.1 4)) v1 := by rw [k_call_120]
    exact nm_W1 hR (J127 (m_fail x w0 (x.1 4)) v1 ls _ _ hk hl hP hD hS)
  have J100 : ∀ (x : nM) (v1 : Int32) (w0 : Int32) (ls : Array Slot) (H : Heap) (locs : List Loc), p_call_100 x v1 w0 → lv_has ls 4 [(0, .ref mo), (1, .int v1)] → va_P G.1 nn_cls (nm_W G mo ad x) H → va_D A (nm_W G mo ad x) → va_S A s.heap H locs → W p l e (headSpec w_Mo_call ({ frames := 4, cells := 0, slots := 0, locals := 84 })).room s m [.ref mo, .int a1].toArray below meth c H locs 0 0 (MQ below (nm_Qv G mo ad (k_call_100 x v1 w0) A) [.ref mo, .int a1].toArray s 0 0 A) (F0 m 100 ls [.int w0]) := by
    intro x v1 w0 ls H locs hk hl hP hD hS
    unfold p_call_100 at hk
    refine lv_istore_n (lv' := [(2, .int w0), (0, .ref mo), (1, .int v1)]) hx hb d_Mo_call_100 rfl hl (by decide) rfl (fun ls hl => ?_)
    refine lv_aload_n hx hb d_Mo_call_101 rfl (lv_at hl 1 rfl) ?_
    refine nm_getA hx hb hg hown hK hP 20 (by decide) (by decide) (hg _ mw_910) d_Mo_call_102 ?_
    refine lv_iload_n hx hb d_Mo_call_105 rfl (lv_at hl 2 rfl) ?_
    obtain ⟨hi, hk⟩ := hk
    refine nm_ld hx hb hK hP 20 8 rfl (by decide) hi d_Mo_call_106 ?_
    refine lv_if_le (tgt := 127) hx hb d_Mo_call_107 rfl (fun hc107 => ?_) (fun hc107 => ?_)
    · skip
      have hk := hk.1 hc107
      have hl := lv_sub (l' := [(0, .ref mo), (1, .int v1)]) hl [1, 2] rfl
      have hR : k_call_100 x v1 w0 = k_call_127 x v1 := by rw [k_call_100]; rw [if_pos hc107]
      exact nm_W1 hR (J127 x v1 ls _ _ hk hl hP hD hS)
    · skip
      have hk := hk.2 hc107
      refine lv_aload_n hx hb d_Mo_call_110 rfl (lv_at hl 1 rfl) ?_
      refine lv_iload_n hx hb d_Mo_call_111 rfl (lv_at hl 0 rfl) ?_
      refine lv_if_eq (tgt := 119) hx hb d_Mo_call_112 rfl (fun hc112 => ?_) (fun hc112 => ?_)
      · skip
        have hk := hk.1 hc112
        refine lv_iconst (v := 1) hx hb d_Mo_call_119 (by decide) ?_
        have hl := lv_sub (l' := [(0, .ref mo), (1, .int v1)]) hl [1, 2] rfl
        have hR : k_call_100 x v1 w0 = k_call_120 x v1 1 := by rw [k_call_100]; rw [if_neg hc107]; rw [if_pos hc112]
        exact nm_W1 hR (J120 x v1 1 ls _ _ hk hl hP hD hS)
      · skip
        have hk := hk.2 hc112
        refine lv_iconst (v := 5) hx hb d_Mo_call_115 (by decide) ?_
        refine lv_goto (tgt := 120) hx hb d_Mo_call_116 rfl ?_
        have hl := lv_sub (l' := [(0, .ref mo), (1, .int v1)]) hl [1, 2] rfl
        have hR : k_call_100 x v1 w0 = k_call_120 x v1 5 := by rw [k_call_100]; rw [if_neg hc107]; rw [if_neg hc112]
        exact nm_W1 hR (J120 x v1 5 ls _ _ hk hl hP hD hS)
  have J99 : ∀ (x : nM) (v1 : Int32) (ls : Array Slot) (H : Heap) (locs : List Loc), p_call_99 x v1 → lv_has ls 4 [(0, .ref mo), (1, .int v1)] → va_P G.1 nn_cls (nm_W G mo ad x) H → va_D A (nm_W G mo ad x) → va_S A s.heap H locs → W p l e (headSpec w_Mo_call ({ frames := 4, cells := 0, slots := 0, locals := 84 })).room s m [.ref mo, .int a1].toArray below meth c H locs 0 0 (MQ below (nm_Qv G mo ad (k_call_99 x v1) A) [.ref mo, .int a1].toArray s 0 0 A) (F0 m 99 ls []) := by
    intro x v1 ls H locs hk hl hP hD hS
    unfold p_call_99 at hk
    refine lv_iconst (v := 0) hx hb d_Mo_call_99 (by decide) ?_
    have hl := lv_sub (l' := [(0, .ref mo), (1, .int v1)]) hl [0, 1] rfl
    have hR : k_call_99 x v1 = k_call_100 x v1 0 := by rw [k_call_99]
    exact nm_W1 hR (J100 x v1 0 ls _ _ hk hl hP hD hS)
  have J95 : ∀ (x : nM) (v1 : Int32) (ls : Array Slot) (H : Heap) (locs : List Loc), p_call_95 x v1 → lv_has ls 4 [(0, .ref mo), (1, .int v1)] → va_P G.1 nn_cls (nm_W G mo ad x) H → va_D A (nm_W G mo ad x) → va_S A s.heap H locs → W p l e (headSpec w_Mo_call ({ frames := 4, cells := 0, slots := 0, locals := 84 })).room s m [.ref mo, .int a1].toArray below meth c H locs 0 0 (MQ below (nm_Qv G mo ad (k_call_95 x v1) A) [.ref mo, .int a1].toArray s 0 0 A) (F0 m 95 ls []) := by
    intro x v1 ls H locs hk hl hP hD hS
    unfold p_call_95 at hk
    refine lv_iconst (v := 1) hx hb d_Mo_call_95 (by decide) ?_
    refine lv_goto (tgt := 100) hx hb d_Mo_call_96 rfl ?_
    have hl := lv_sub (l' := [(0, .ref mo), (1, .int v1)]) hl [0, 1] rfl
    have hR : k_call_95 x v1 = k_call_100 x v1 1 := by rw [k_call_95]
    exact nm_W1 hR (J100 x v1 1 ls _ _ hk hl hP hD hS)
  have J40 : ∀ (x : nM) (v1 : Int32) (ls : Array Slot) (H : Heap) (locs : List Loc), p_call_40 x v1 → lv_has ls 4 [(0, .ref mo), (1, .int v1)] → va_P G.1 nn_cls (nm_W G mo ad x) H → va_D A (nm_W G mo ad x) → va_S A s.heap H locs → W p l e (headSpec w_Mo_call ({ frames := 4, cells := 0, slots := 0, locals := 84 })).room s m [.ref mo, .int a1].toArray below meth c H locs 0 0 (MQ below (nm_Qv G mo ad (k_call_40 x v1) A) [.ref mo, .int a1].toArray s 0 0 A) (F0 m 40 ls []) := by
    intro x v1 ls H locs hk hl hP hD hS
    unfold p_call_40 at hk
    refine lv_aload_n hx hb d_Mo_call_40 rfl (lv_at hl 0 rfl) ?_
    obtain ⟨hi, hk⟩ := hk
    have hFc := nm_free hD hS hA
    refine va_callv (va_runV (As := []) (rest := []) ⟨hx, hb, hml, hown, hts⟩ (t_open l G _ mo ad x hi) (cwV 0 hts (nn_gV mw_1116 mw_1113 mw_1115 mw_65 mw_94) rfl rfl rfl (by decide +kernel) ⟨Nat.le_of_ble_eq_true rfl, Nat.le_of_ble_eq_true rfl⟩) (nn_preV (va_recv hK hP rfl (q0 := 0) rfl) hP hD hK hN) rfl rfl hl.1 rfl (lv_room (Nat.le_of_ble_eq_true rfl)) d_Mo_call_41 ⟨Nat.le_of_ble_eq_true rfl, Nat.le_of_ble_eq_true rfl⟩) hS (fun q _ h => hFc q h) hFc (fun u t H locs ht hvm hw hB hz1 hk1 hS => ?_)
    obtain ⟨hP1, hD1⟩ := hB
    rw [ht] at hP1
    have hP := hP1
    have hD := hD1.weaken (fun _ _ _ h => hFc _ h)
    refine lv_aload_n hx hb d_Mo_call_44 rfl (lv_at hl 0 rfl) ?_
    refine lv_bipush (v := 22) hx hb d_Mo_call_45 (by decide) ?_
    refine lv_iload_n hx hb d_Mo_call_47 rfl (lv_at hl 1 rfl) ?_
    refine lv_iconst (v := 1) hx hb d_Mo_call_48 (by decide) ?_
    obtain ⟨hi, hk⟩ := hk
    have hFc := nm_free hD hS hA
    refine va_callv (va_runV (As := [.int 22, .int v1, .int 1]) (rest := []) ⟨hx, hb, hml, hown, hts⟩ (t_push l G _ mo ad (m_open x) 22 v1 1 hi) (cwV 3 hts (nn_gV mw_1028 mw_1025 mw_1027 mw_46 mw_94) rfl rfl rfl (by decide +kernel) ⟨Nat.le_of_ble_eq_true rfl, Nat.le_of_ble_eq_true rfl⟩) (nn_preV (va_recv hK hP rfl (q0 := 0) rfl) hP hD hK hN) rfl rfl hl.1 rfl (lv_room (Nat.le_of_ble_eq_true rfl)) d_Mo_call_49 ⟨Nat.le_of_ble_eq_true rfl, Nat.le_of_ble_eq_true rfl⟩) hS (fun q _ h => hFc q h) hFc (fun u t H locs ht hvm hw hB hz1 hk1 hS => ?_)
    obtain ⟨hP1, hD1⟩ := hB
    rw [ht] at hP1
    have hP := hP1
    have hD := hD1.weaken (fun _ _ _ h => hFc _ h)
    refine lv_aload_n hx hb d_Mo_call_52 rfl (lv_at hl 0 rfl) ?_
    refine lv_bipush (v := 14) hx hb d_Mo_call_53 (by decide) ?_
    refine lv_iconst (v := 0) hx hb d_Mo_call_55 (by decide) ?_
    refine lv_iconst (v := 0) hx hb d_Mo_call_56 (by decide) ?_
    obtain ⟨hi, hk⟩ := hk
    have hFc := nm_free hD hS hA
    refine va_callv (va_runV (As := [.int 14, .int 0, .int 0]) (rest := []) ⟨hx, hb, hml, hown, hts⟩ (t_push l G _ mo ad (m_push (m_open x) 22 v1 1) 14 0 0 hi) (cwV 3 hts (nn_gV mw_1028 mw_1025 mw_1027 mw_46 mw_94) rfl rfl rfl (by decide +kernel) ⟨Nat.le_of_ble_eq_true rfl, Nat.le_of_ble_eq_true rfl⟩) (nn_preV (va_recv hK hP rfl (q0 := 0) rfl) hP hD hK hN) rfl rfl hl.1 rfl (lv_room (Nat.le_of_ble_eq_true rfl)) d_Mo_call_57 ⟨Nat.le_of_ble_eq_true rfl, Nat.le_of_ble_eq_true rfl⟩) hS (fun q _ h => hFc q h) hFc (fun u t H locs ht hvm hw hB hz1 hk1 hS => ?_)
    obtain ⟨hP1, hD1⟩ := hB
    rw [ht] at hP1
    have hP := hP1
    have hD := hD1.weaken (fun _ _ _ h => hFc _ h)
    have hR : k_call_40 x v1 = m_push (m_push (m_open x) 22 v1 1) 14 0 0 := by rw [k_call_40]
    refine nm_W1 hR ?_
    exact W.vret hx hb hr (fun t ht hW => ⟨⟨(), rfl, trivial, ⟨by rw [ht]; exact hP, hD⟩⟩, hS.F ht⟩) hS.2.2 d_Mo_call_60
  unfold o_call at hk
  refine lv_aload_n hx hb d_Mo_call_0 rfl (lv_at hl 0 rfl) ?_
  obtain ⟨hi, hk⟩ := hk
  have hFc := nm_free hD hS hA
  refine va_callv (va_runV (As := []) (rest := []) ⟨hx, hb, hml, hown, hts⟩ (t_goOn l G _ mo ad x hi) (cwV 0 hts (nn_gV mw_1068 mw_1065 mw_1067 mw_53 mw_94) rfl rfl rfl (by decide +kernel) ⟨Nat.le_of_ble_eq_true rfl, Nat.le_of_ble_eq_true rfl⟩) (nn_preV (va_recv hK hP rfl (q0 := 0) rfl) hP hD hK hN) rfl rfl hl.1 rfl (lv_room (Nat.le_of_ble_eq_true rfl)) d_Mo_call_1 ⟨Nat.le_of_ble_eq_true rfl, Nat.le_of_ble_eq_true rfl⟩) hS (fun q _ h => hFc q h) hFc (fun u t H locs ht hvm hw hB hz1 hk1 hS => ?_)
  obtain ⟨hP1, hD1⟩ := hB
  rw [ht] at hP1
  have hP := hP1
  have hD := hD1.weaken (fun _ _ _ h => hFc _ h)
  refine lv_aload_n hx hb d_Mo_call_4 rfl (lv_at hl 0 rfl) ?_
  refine nm_get hx hb hg hown hK hP 3 (by decide) (by decide) (hg _ mw_893) d_Mo_call_5 ?_
  refine lv_bipush (v := 40) hx hb d_Mo_call_8 (by decide) ?_
  refine lv_icmp_ne (tgt := 61) hx hb d_Mo_call_10 rfl (fun hc10 => ?_) (fun hc10 => ?_)
  · skip
    have hk := hk.2 hc10
    refine lv_aload_n hx hb d_Mo_call_61 rfl (lv_at hl 0 rfl) ?_
    refine nm_get hx hb hg hown hK hP 3 (by decide) (by decide) (hg _ mw_893) d_Mo_call_62 ?_
    refine lv_bipush (v := 59) hx hb d_Mo_call_65 (by decide) ?_
    refine lv_icmp_eq (tgt := 95) hx hb d_Mo_call_67 rfl (fun hc67 => ?_) (fun hc67 => ?_)
    · skip
      have hk := hk.1 hc67
      have hl := lv_sub (l' := [(0, .ref mo), (1, .int a1)]) hl [0, 1] rfl
      have hR : m_call x a1 = k_call_95 (m_goOn x) a1 := by rw [m_call]; rw [if_neg hc10]; rw [if_pos hc67]
      exact nm_W1 hR (J95 (m_goOn x) a1 ls _ _ hk hl hP hD hS)
    · skip
      have hk := hk.2 hc67
      refine lv_aload_n hx hb d_Mo_call_70 rfl (lv_at hl 0 rfl) ?_
      refine nm_get hx hb hg hown hK hP 3 (by decide) (by decide) (hg _ mw_893) d_Mo_call_71 ?_
      refine lv_bipush (v := 8) hx hb d_Mo_call_74 (by decide) ?_
      refine lv_icmp_eq (tgt := 95) hx hb d_Mo_call_76 rfl (fun hc76 => ?_) (fun hc76 => ?_)
      · skip
        have hk := hk.1 hc76
        have hl := lv_sub (l' := [(0, .ref mo), (1, .int a1)]) hl [0, 1] rfl
        have hR : m_call x a1 = k_call_95 (m_goOn x) a1 := by rw [m_call]; rw [if_neg hc10]; rw [if_neg hc67]; rw [if_pos hc76]
        exact nm_W1 hR (J95 (m_goOn x) a1 ls _ _ hk hl hP hD hS)
      · skip
        have hk := hk.2 hc76
        refine lv_aload_n hx hb d_Mo_call_79 rfl (lv_at hl 0 rfl) ?_
        refine nm_get hx hb hg hown hK hP 3 (by decide) (by decide) (hg _ mw_893) d_Mo_call_80 ?_
        refine lv_bipush (v := 11) hx hb d_Mo_call_83 (by decide) ?_
        refine lv_icmp_ne (tgt := 99) hx hb d_Mo_call_85 rfl (fun hc85 => ?_) (fun hc85 => ?_)
        · skip
          have hk := hk.2 hc85
          have hl := lv_sub (l' := [(0, .ref mo), (1, .int a1)]) hl [0, 1] rfl
          have hR : m_call x a1 = k_call_99 (m_goOn x) a1 := by rw [m_call]; rw [if_neg hc10]; rw [if_neg hc67]; rw [if_neg hc76]; rw [if_neg hc85]
          exact nm_W1 hR (J99 (m_goOn x) a1 ls _ _ hk hl hP hD hS)
        · skip
          have hk := hk.1 hc85
          refine lv_aload_n hx hb d_Mo_call_88 rfl (lv_at hl 0 rfl) ?_
          obtain ⟨hi, hk⟩ := hk
          refine vp_callSi (va_Run.run (va_runV (As := []) (rest := []) ⟨hx, hb, hml, hown, hts⟩ (t_takesElse l G _ mo ad (m_goOn x) hi) (cwV 0 hts (nn_gV mw_1120 mw_1117 mw_1119 mw_66 mw_94) rfl rfl rfl (by decide +kernel) ⟨Nat.le_of_ble_eq_true rfl, Nat.le_of_ble_eq_true rfl⟩) (nn_preV (va_recv hK hP rfl (q0 := 0) rfl) hP hD hK hN) rfl rfl hl.1 rfl (lv_room (Nat.le_of_ble_eq_true rfl)) d_Mo_call_89 ⟨Nat.le_of_ble_eq_true rfl, Nat.le_of_ble_eq_true rfl⟩)) (fun r8 er8 => ?_)
          subst er8
          refine lv_if_eq (tgt := 99) hx hb d_Mo_call_92 rfl (fun hc92 => ?_) (fun hc92 => ?_)
          · skip
            have hk := hk.1 hc92
            have hl := lv_sub (l' := [(0, .ref mo), (1, .int a1)]) hl [0, 1] rfl
            have hR : m_call x a1 = k_call_99 (m_goOn x) a1 := by rw [m_call]; rw [if_neg hc10]; rw [if_neg hc67]; rw [if_neg hc76]; rw [if_pos hc85]; rw [if_pos hc92]
            exact nm_W1 hR (J99 (m_goOn x) a1 ls _ _ hk hl hP hD hS)
          · skip
            have hk := hk.2 hc92
            have hl := lv_sub (l' := [(0, .ref mo), (1, .int a1)]) hl [0, 1] rfl
            have hR : m_call x a1 = k_call_95 (m_goOn x) a1 := by rw [m_call]; rw [if_neg hc10]; rw [if_neg hc67]; rw [if_neg hc76]; rw [if_pos hc85]; rw [if_neg hc92]
            exact nm_W1 hR (J95 (m_goOn x) a1 ls _ _ hk hl hP hD hS)
  · skip
    have hk := hk.1 hc10
    refine lv_aload_n hx hb d_Mo_call_13 rfl (lv_at hl 0 rfl) ?_
    refine nm_get hx hb hg hown hK hP 24 (by decide) (by decide) (hg _ mw_914) d_Mo_call_14 ?_
    refine lv_bipush (v := 6) hx hb d_Mo_call_17 (by decide) ?_
    refine lv_icmp_ge (tgt := 40) hx hb d_Mo_call_19 rfl (fun hc19 => ?_) (fun hc19 => ?_)
    · skip
      have hk := hk.1 hc19
      have hl := lv_sub (l' := [(0, .ref mo), (1, .int a1)]) hl [0, 1] rfl
      have hR : m_call x a1 = k_call_40 (m_goOn x) a1 := by rw [m_call]; rw [if_pos hc10]; rw [if_pos hc19]
      exact nm_W1 hR (J40 (m_goOn x) a1 ls _ _ hk hl hP hD hS)
    · skip
      have hk := hk.2 hc19
      refine lv_aload_n hx hb d_Mo_call_22 rfl (lv_at hl 0 rfl) ?_
      refine nm_getA hx hb hg hown hK hP 20 (by decide) (by decide) (hg _ mw_910) d_Mo_call_23 ?_
      refine lv_iload_n hx hb d_Mo_call_26 rfl (lv_at hl 1 rfl) ?_
      obtain ⟨hi, hk⟩ := hk
      refine nm_ld hx hb hK hP 20 8 rfl (by decide) hi d_Mo_call_27 ?_
      refine lv_if_ne (tgt := 40) hx hb d_Mo_call_28 rfl (fun hc28 => ?_) (fun hc28 => ?_)
      · skip
        have hk := hk.2 hc28
        have hl := lv_sub (l' := [(0, .ref mo), (1, .int a1)]) hl [0, 1] rfl
        have hR : m_call x a1 = k_call_40 (m_goOn x) a1 := by rw [m_call]; rw [if_pos hc10]; rw [if_neg hc19]; rw [if_neg hc28]
        exact nm_W1 hR (J40 (m_goOn x) a1 ls _ _ hk hl hP hD hS)
      · skip
        have hk := hk.1 hc28
        refine lv_aload_n hx hb d_Mo_call_31 rfl (lv_at hl 0 rfl) ?_
        refine lv_iconst (v := 5) hx hb d_Mo_call_32 (by decide) ?_
        refine lv_aload_n hx hb d_Mo_call_33 rfl (lv_at hl 0 rfl) ?_
        refine nm_get hx hb hg hown hK hP 4 (by decide) (by decide) (hg _ mw_894) d_Mo_call_34 ?_
        have hFc := nm_free hD hS hA
        refine va_callv (va_runV (As := [.int 5, .int ((m_goOn x).1 4)]) (rest := []) ⟨hx, hb, hml, hown, hts⟩ (t_fail l G _ mo ad (m_goOn x) 5 ((m_goOn x).1 4)) (cwV 2 hts (nn_gV mw_1080 mw_1077 mw_1079 mw_56 mw_94) rfl rfl rfl (by decide +kernel) ⟨Nat.le_of_ble_eq_true rfl, Nat.le_of_ble_eq_true rfl⟩) (nn_preV (va_recv hK hP rfl (q0 := 0) rfl) hP hD hK hN) rfl rfl hl.1 rfl (lv_room (Nat.le_of_ble_eq_true rfl)) d_Mo_call_37 ⟨Nat.le_of_ble_eq_true rfl, Nat.le_of_ble_eq_true rfl⟩) hS (fun q _ h => hFc q h) hFc (fun u t H locs ht hvm hw hB hz1 hk1 hS => ?_)
        obtain ⟨hP1, hD1⟩ := hB
        rw [ht] at hP1
        have hP := hP1
        have hD := hD1.weaken (fun _ _ _ h => hFc _ h)
        have hl := lv_sub (l' := [(0, .ref mo), (1, .int a1)]) hl [0, 1] rfl
        have hR : m_call x a1 = k_call_40 (m_fail (m_goOn x) 5 ((m_goOn x).1 4)) a1 := by rw [m_call]; rw [if_pos hc10]; rw [if_neg hc19]; rw [if_pos hc28]
        exact nm_W1 hR (J40 (m_fail (m_goOn x) 5 ((m_goOn x).1 4)) a1 ls _ _ hk hl hP hD hS)

theorem mw_63 : (.selects R_Mo y_Mo_peek y_Mo_peek : Cond) ∈ nn_gw := nn_at 63 (by decide +kernel) (by decide +kernel)
theorem mw_64 : (.selects R_Mo y_Mo_call y_Mo_call : Cond) ∈ nn_gw := nn_at 64 (by decide +kernel) (by decide +kernel)
theorem mw_1105 : (.methodLink R_Mo 178 y_Mo_peek : Cond) ∈ nn_gw := nn_at 1105 (by decide +kernel) (by decide +kernel)
theorem mw_1107 : (.instanceMethod y_Mo_peek : Cond) ∈ nn_gw := nn_at 1107 (by decide +kernel) (by decide +kernel)
set_option maxRecDepth 100000 in
theorem mw_1108 : (.code y_Mo_peek b_Mo_peek 6 (some .int) : Cond) ∈ nn_gw := nn_at 1108 (by rfl) (by decide +kernel)
theorem mw_1109 : (.methodLink R_Mo 182 y_Mo_call : Cond) ∈ nn_gw := nn_at 1109 (by decide +kernel) (by decide +kernel)
theorem mw_1111 : (.instanceMethod y_Mo_call : Cond) ∈ nn_gw := nn_at 1111 (by decide +kernel) (by decide +kernel)
set_option maxRecDepth 100000 in
theorem mw_1112 : (.code y_Mo_call b_Mo_call 4 none : Cond) ∈ nn_gw := nn_at 1112 (by rfl) (by decide +kernel)
theorem d_Mo_named_0 : decode b_Mo_named 0 = .ok (.aload_n 0, 1) := by decide +kernel
theorem d_Mo_named_1 : decode b_Mo_named 1 = .ok (.aload_n 0, 1) := by decide +kernel
theorem d_Mo_named_2 : decode b_Mo_named 2 = .ok (.getfield 85, 3) := by decide +kernel
theorem d_Mo_named_5 : decode b_Mo_named 5 = .ok (.invokevirtual 127, 3) := by decide +kernel
theorem d_Mo_named_8 : decode b_Mo_named 8 = .ok (.istore_n 1, 1) := by decide +kernel
theorem d_Mo_named_9 : decode b_Mo_named 9 = .ok (.aload_n 0, 1) := by decide +kernel
theorem d_Mo_named_10 : decode b_Mo_named 10 = .ok (.invokevirtual 178, 3) := by decide +kernel
theorem d_Mo_named_13 : decode b_Mo_named 13 = .ok (.istore_n 2, 1) := by decide +kernel
theorem d_Mo_named_14 : decode b_Mo_named 14 = .ok (.iload_n 1, 1) := by decide +kernel
theorem d_Mo_named_15 : decode b_Mo_named 15 = .ok (.ifCond .ge 15, 3) := by decide +kernel
theorem d_Mo_named_18 : decode b_Mo_named 18 = .ok (.aload_n 0, 1) := by decide +kernel
theorem d_Mo_named_19 : decode b_Mo_named 19 = .ok (.iconst 2, 1) := by decide +kernel
theorem d_Mo_named_20 : decode b_Mo_named 20 = .ok (.aload_n 0, 1) := by decide +kernel
theorem d_Mo_named_21 : decode b_Mo_named 21 = .ok (.getfield 78, 3) := by decide +kernel
theorem d_Mo_named_24 : decode b_Mo_named 24 = .ok (.invokevirtual 120, 3) := by decide +kernel
theorem d_Mo_named_27 : decode b_Mo_named 27 = .ok (.goto 154, 3) := by decide +kernel
theorem d_Mo_named_30 : decode b_Mo_named 30 = .ok (.aload_n 0, 1) := by decide +kernel
theorem d_Mo_named_31 : decode b_Mo_named 31 = .ok (.getfield 33, 3) := by decide +kernel
theorem d_Mo_named_34 : decode b_Mo_named 34 = .ok (.iload_n 1, 1) := by decide +kernel
theorem d_Mo_named_35 : decode b_Mo_named 35 = .ok (.iaload, 1) := by decide +kernel
theorem d_Mo_named_36 : decode b_Mo_named 36 = .ok (.iconst 2, 1) := by decide +kernel
theorem d_Mo_named_37 : decode b_Mo_named 37 = .ok (.if_icmp .ne 35, 3) := by decide +kernel
theorem d_Mo_named_40 : decode b_Mo_named 40 = .ok (.iload_n 2, 1) := by decide +kernel
theorem d_Mo_named_41 : decode b_Mo_named 41 = .ok (.bipush 127, 2) := by decide +kernel
theorem d_Mo_named_43 : decode b_Mo_named 43 = .ok (.if_icmp .eq 9, 3) := by decide +kernel
theorem d_Mo_named_46 : decode b_Mo_named 46 = .ok (.iload_n 2, 1) := by decide +kernel
theorem d_Mo_named_47 : decode b_Mo_named 47 = .ok (.bipush 91, 2) := by decide +kernel
theorem d_Mo_named_49 : decode b_Mo_named 49 = .ok (.if_icmp .ne 15, 3) := by decide +kernel
theorem d_Mo_named_52 : decode b_Mo_named 52 = .ok (.aload_n 0, 1) := by decide +kernel
theorem d_Mo_named_53 : decode b_Mo_named 53 = .ok (.iconst 4, 1) := by decide +kernel
theorem d_Mo_named_54 : decode b_Mo_named 54 = .ok (.aload_n 0, 1) := by decide +kernel
theorem d_Mo_named_55 : decode b_Mo_named 55 = .ok (.getfield 78, 3) := by decide +kernel
theorem d_Mo_named_58 : decode b_Mo_named 58 = .ok (.invokevirtual 120, 3) := by decide +kernel
theorem d_Mo_named_61 : decode b_Mo_named 61 = .ok (.goto 120, 3) := by decide +kernel
theorem d_Mo_named_64 : decode b_Mo_named 64 = .ok (.aload_n 0, 1) := by decide +kernel
theorem d_Mo_named_65 : decode b_Mo_named 65 = .ok (.iload_n 1, 1) := by decide +kernel
theorem d_Mo_named_66 : decode b_Mo_named 66 = .ok (.invokevirtual 182, 3) := by decide +kernel
theorem d_Mo_named_69 : decode b_Mo_named 69 = .ok (.goto 112, 3) := by decide +kernel
theorem d_Mo_named_72 : decode b_Mo_named 72 = .ok (.aload_n 0, 1) := by decide +kernel
theorem d_Mo_named_73 : decode b_Mo_named 73 = .ok (.getfield 33, 3) := by decide +kernel
theorem d_Mo_named_76 : decode b_Mo_named 76 = .ok (.iload_n 1, 1) := by decide +kernel
theorem d_Mo_named_77 : decode b_Mo_named 77 = .ok (.iaload, 1) := by decide +kernel
theorem d_Mo_named_78 : decode b_Mo_named 78 = .ok (.iconst 1, 1) := by decide +kernel
theorem d_Mo_named_79 : decode b_Mo_named 79 = .ok (.if_icmp .ne 48, 3) := by decide +kernel
theorem d_Mo_named_82 : decode b_Mo_named 82 = .ok (.iload_n 2, 1) := by decide +kernel
theorem d_Mo_named_83 : decode b_Mo_named 83 = .ok (.bipush 91, 2) := by decide +kernel
theorem d_Mo_named_85 : decode b_Mo_named 85 = .ok (.if_icmp .eq 15, 3) := by decide +kernel
theorem d_Mo_named_88 : decode b_Mo_named 88 = .ok (.aload_n 0, 1) := by decide +kernel
theorem d_Mo_named_89 : decode b_Mo_named 89 = .ok (.iconst 4, 1) := by decide +kernel
theorem d_Mo_named_90 : decode b_Mo_named 90 = .ok (.aload_n 0, 1) := by decide +kernel
theorem d_Mo_named_91 : decode b_Mo_named 91 = .ok (.getfield 78, 3) := by decide +kernel
theorem d_Mo_named_94 : decode b_Mo_named 94 = .ok (.invokevirtual 120, 3) := by decide +kernel
theorem d_Mo_named_97 : decode b_Mo_named 97 = .ok (.goto 84, 3) := by decide +kernel
theorem d_Mo_named_100 : decode b_Mo_named 100 = .ok (.aload_n 0, 1) := by decide +kernel
theorem d_Mo_named_101 : decode b_Mo_named 101 = .ok (.invokevirtual 117, 3) := by decide +kernel
theorem d_Mo_named_104 : decode b_Mo_named 104 = .ok (.aload_n 0, 1) := by decide +kernel
theorem d_Mo_named_105 : decode b_Mo_named 105 = .ok (.invokevirtual 168, 3) := by decide +kernel
theorem d_Mo_named_108 : decode b_Mo_named 108 = .ok (.aload_n 0, 1) := by decide +kernel
theorem d_Mo_named_109 : decode b_Mo_named 109 = .ok (.bipush 21, 2) := by decide +kernel
theorem d_Mo_named_111 : decode b_Mo_named 111 = .ok (.iload_n 1, 1) := by decide +kernel
theorem d_Mo_named_112 : decode b_Mo_named 112 = .ok (.iconst 0, 1) := by decide +kernel
theorem d_Mo_named_113 : decode b_Mo_named 113 = .ok (.invokevirtual 162, 3) := by decide +kernel
theorem d_Mo_named_116 : decode b_Mo_named 116 = .ok (.aload_n 0, 1) := by decide +kernel
theorem d_Mo_named_117 : decode b_Mo_named 117 = .ok (.bipush 14, 2) := by decide +kernel
theorem d_Mo_named_119 : decode b_Mo_named 119 = .ok (.iconst 0, 1) := by decide +kernel
theorem d_Mo_named_120 : decode b_Mo_named 120 = .ok (.iconst 0, 1) := by decide +kernel
theorem d_Mo_named_121 : decode b_Mo_named 121 = .ok (.invokevirtual 162, 3) := by decide +kernel
theorem d_Mo_named_124 : decode b_Mo_named 124 = .ok (.goto 57, 3) := by decide +kernel
theorem d_Mo_named_127 : decode b_Mo_named 127 = .ok (.iload_n 2, 1) := by decide +kernel
theorem d_Mo_named_128 : decode b_Mo_named 128 = .ok (.bipush 127, 2) := by decide +kernel
theorem d_Mo_named_130 : decode b_Mo_named 130 = .ok (.if_icmp .eq 15, 3) := by decide +kernel
theorem d_Mo_named_133 : decode b_Mo_named 133 = .ok (.aload_n 0, 1) := by decide +kernel
theorem d_Mo_named_134 : decode b_Mo_named 134 = .ok (.iconst 4, 1) := by decide +kernel
theorem d_Mo_named_135 : decode b_Mo_named 135 = .ok (.aload_n 0, 1) := by decide +kernel
theorem d_Mo_named_136 : decode b_Mo_named 136 = .ok (.getfield 78, 3) := by decide +kernel
theorem d_Mo_named_139 : decode b_Mo_named 139 = .ok (.invokevirtual 120, 3) := by decide +kernel
theorem d_Mo_named_142 : decode b_Mo_named 142 = .ok (.goto 39, 3) := by decide +kernel
theorem d_Mo_named_145 : decode b_Mo_named 145 = .ok (.aload_n 0, 1) := by decide +kernel
theorem d_Mo_named_146 : decode b_Mo_named 146 = .ok (.invokevirtual 117, 3) := by decide +kernel
theorem d_Mo_named_149 : decode b_Mo_named 149 = .ok (.aload_n 0, 1) := by decide +kernel
theorem d_Mo_named_150 : decode b_Mo_named 150 = .ok (.invokevirtual 117, 3) := by decide +kernel
theorem d_Mo_named_153 : decode b_Mo_named 153 = .ok (.aload_n 0, 1) := by decide +kernel
theorem d_Mo_named_154 : decode b_Mo_named 154 = .ok (.bipush 23, 2) := by decide +kernel
theorem d_Mo_named_156 : decode b_Mo_named 156 = .ok (.bipush 32, 2) := by decide +kernel
theorem d_Mo_named_158 : decode b_Mo_named 158 = .ok (.aload_n 0, 1) := by decide +kernel
theorem d_Mo_named_159 : decode b_Mo_named 159 = .ok (.iload_n 1, 1) := by decide +kernel
theorem d_Mo_named_160 : decode b_Mo_named 160 = .ok (.invokevirtual 175, 3) := by decide +kernel
theorem d_Mo_named_163 : decode b_Mo_named 163 = .ok (.iadd, 1) := by decide +kernel
theorem d_Mo_named_164 : decode b_Mo_named 164 = .ok (.aload_n 0, 1) := by decide +kernel
theorem d_Mo_named_165 : decode b_Mo_named 165 = .ok (.getfield 39, 3) := by decide +kernel
theorem d_Mo_named_168 : decode b_Mo_named 168 = .ok (.iload_n 1, 1) := by decide +kernel
theorem d_Mo_named_169 : decode b_Mo_named 169 = .ok (.iaload, 1) := by decide +kernel
theorem d_Mo_named_170 : decode b_Mo_named 170 = .ok (.invokevirtual 162, 3) := by decide +kernel
theorem d_Mo_named_173 : decode b_Mo_named 173 = .ok (.aload_n 0, 1) := by decide +kernel
theorem d_Mo_named_174 : decode b_Mo_named 174 = .ok (.bipush 14, 2) := by decide +kernel
theorem d_Mo_named_176 : decode b_Mo_named 176 = .ok (.iconst 0, 1) := by decide +kernel
theorem d_Mo_named_177 : decode b_Mo_named 177 = .ok (.iconst 0, 1) := by decide +kernel
theorem d_Mo_named_178 : decode b_Mo_named 178 = .ok (.invokevirtual 162, 3) := by decide +kernel
theorem d_Mo_named_181 : decode b_Mo_named 181 = .ok (.return_, 1) := by decide +kernel

def k_named_52 (x : nM)  : nM := (m_fail x 4 (x.1 4))
def p_named_52 (x : nM)  : Prop := True
def m_named (x : nM)  : nM := (if 0 ≤ m_find x (x.1 5) then (if nm_g ((m_peek x).1) 17 (m_find x (x.1 5)) = 2 then (if (m_peek x).2 = 127 then k_named_52 ((m_peek x).1) else (if (m_peek x).2 = 91 then k_named_52 ((m_peek x).1) else (m_call ((m_peek x).1) (m_find x (x.1 5))))) else (if nm_g ((m_peek x).1) 17 (m_find x (x.1 5)) = 1 then (if (m_peek x).2 = 91 then (m_push (m_push (m_open (m_goOn ((m_peek x).1))) 21 (m_find x (x.1 5)) 0) 14 0 0) else (m_fail ((m_peek x).1) 4 (((m_peek x).1).1 4))) else (if (m_peek x).2 = 127 then (m_push (m_push (m_goOn (m_goOn ((m_peek x).1))) 23 (32 + (m_links (m_goOn (m_goOn ((m_peek x).1))) (m_find x (x.1 5)))) (nm_g (m_goOn (m_goOn ((m_peek x).1))) 19 (m_find x (x.1 5)))) 14 0 0) else (m_fail ((m_peek x).1) 4 (((m_peek x).1).1 4))))) else (m_fail ((m_peek x).1) 2 (((m_peek x).1).1 4)))
def o_named (x : nM)  : Prop := o_find x (x.1 5) ∧ o_peek x ∧ ((0 ≤ m_find x (x.1 5) → vp_in (m_find x (x.1 5)) 100 ∧ ((nm_g ((m_peek x).1) 17 (m_find x (x.1 5)) = 2 → (((m_peek x).2 = 127 → p_named_52 ((m_peek x).1)) ∧ (¬ ((m_peek x).2 = 127) → (((m_peek x).2 = 91 → p_named_52 ((m_peek x).1)) ∧ (¬ ((m_peek x).2 = 91) → o_call ((m_peek x).1) (m_find x (x.1 5)) ∧ True))))) ∧ (¬ (nm_g ((m_peek x).1) 17 (m_find x (x.1 5)) = 2) → vp_in (m_find x (x.1 5)) 100 ∧ ((nm_g ((m_peek x).1) 17 (m_find x (x.1 5)) = 1 → (((m_peek x).2 = 91 → o_goOn ((m_peek x).1) ∧ o_open (m_goOn ((m_peek x).1)) ∧ o_push (m_open (m_goOn ((m_peek x).1))) 21 (m_find x (x.1 5)) 0 ∧ o_push (m_push (m_open (m_goOn ((m_peek x).1))) 21 (m_find x (x.1 5)) 0) 14 0 0 ∧ True) ∧ (¬ ((m_peek x).2 = 91) → True))) ∧ (¬ (nm_g ((m_peek x).1) 17 (m_find x (x.1 5)) = 1) → (((m_peek x).2 = 127 → o_goOn ((m_peek x).1) ∧ o_goOn (m_goOn ((m_peek x).1)) ∧ o_links (m_goOn (m_goOn ((m_peek x).1))) (m_find x (x.1 5)) ∧ vp_in (m_find x (x.1 5)) 100 ∧ o_push (m_goOn (m_goOn ((m_peek x).1))) 23 (32 + (m_links (m_goOn (m_goOn ((m_peek x).1))) (m_find x (x.1 5)))) (nm_g (m_goOn (m_goOn ((m_peek x).1))) 19 (m_find x (x.1 5))) ∧ o_push (m_push (m_goOn (m_goOn ((m_peek x).1))) 23 (32 + (m_links (m_goOn (m_goOn ((m_peek x).1))) (m_find x (x.1 5)))) (nm_g (m_goOn (m_goOn ((m_peek x).1))) 19 (m_find x (x.1 5)))) 14 0 0 ∧ True) ∧ (¬ ((m_peek x).2 = 127) → True))))))) ∧ (¬ (0 ≤ m_find x (x.1 5)) → True))
set_option maxHeartbeats 4000000 in
set_option maxRecDepth 100000 in
theorem t_named (l : Launch) (G : nn_G) (sz : Nat) (mo : Nat) (ad : Nat → Nat) (x : nM)  (hk : o_named x) : Met l y_Mo_named w_Mo_named ({ frames := 5, cells := 0, slots := 0, locals := 107 }) (nn_P G [.ref mo] (nm_W G mo ad x) sz) (nm_Qv G mo ad (m_named x) (va_A (nm_W G mo ad x) sz)) 0 0 (va_A (nm_W G mo ad x) sz) := by
  refine Met.ofW (cc := b_Mo_named) (maxL := 3) (ret := none) (by decide) rfl ?_
  intro p e s m args below meth c s₁ B hml hv
  obtain ⟨rfl, hsz, hP, hK, hD0, hN⟩ := hv
  have hx := B.exec
  have hb := B.bytes
  have hr := B.returns
  have hts := atoms_spec (ws := w_Mo_named) B.pre
  have hg : ∀ w ∈ nn_gw, w.before _ s = true := fun w h => hts w (List.mem_cons_of_mem _ h)
  have hown : s.vm.findClass R_Mo = some m.cls := findClass_of_methodNamed B.named
  subst hsz
  have hD := hD0.self (sz := s.heap.size)
  generalize hAe : va_A (nm_W G mo ad x) s.heap.size = A at hD ⊢
  have hA : ∀ q : Nat, s.heap.size ≤ q → A q := fun q h => by rw [← hAe]; exact Or.inr h
  clear hAe
  have hS : va_S A s.heap s.heap [] := va_S.rf
  have hP : va_P G.1 nn_cls (nm_W G mo ad x) s.heap := hP
  have hl := lv_entry ([.ref mo]) (n := 3) (Nat.le_of_ble_eq_true rfl)
  rw [lg_entry_eq]
  generalize (lg_sl ([.ref mo]) ++ List.replicate (3 - (lg_sl ([.ref mo])).length) Slot.unset).toArray = ls at hl ⊢
  have hl : lv_has ls 3 [(0, .ref mo)] := hl
  have J52 : ∀ (x : nM)  (ls : Array Slot) (H : Heap) (locs : List Loc), p_named_52 x → lv_has ls 3 [(0, .ref mo)] → va_P G.1 nn_cls (nm_W G mo ad x) H → va_D A (nm_W G mo ad x) → va_S A s.heap H locs → W p l e (headSpec w_Mo_named ({ frames := 5, cells := 0, slots := 0, locals := 107 })).room s m [.ref mo].toArray below meth c H locs 0 0 (MQ below (nm_Qv G mo ad (k_named_52 x) A) [.ref mo].toArray s 0 0 A) (F0 m 52 ls []) := by
    intro x  ls H locs hk hl hP hD hS
    unfold p_named_52 at hk
    refine lv_aload_n hx hb d_Mo_named_52 rfl (lv_at hl 0 rfl) ?_
    refine lv_iconst (v := 4) hx hb d_Mo_named_53 (by decide) ?_
    refine lv_aload_n hx hb d_Mo_named_54 rfl (lv_at hl 0 rfl) ?_
    refine nm_get hx hb hg hown hK hP 4 (by decide) (by decide) (hg _ mw_894) d_Mo_named_55 ?_
    have hFc := nm_free hD hS hA
    refine va_callv (va_runV (As := [.int 4, .int (x.1 4)]) (rest := []) ⟨hx, hb, hml, hown, hts⟩ (t_fail l G _ mo ad x 4 (x.1 4)) (cwV 2 hts (nn_gV mw_1080 mw_1077 mw_1079 mw_56 mw_94) rfl rfl rfl (by decide +kernel) ⟨Nat.le_of_ble_eq_true rfl, Nat.le_of_ble_eq_true rfl⟩) (nn_preV (va_recv hK hP rfl (q0 := 0) rfl) hP hD hK hN) rfl rfl hl.1 rfl (lv_room (Nat.le_of_ble_eq_true rfl)) d_Mo_named_58 ⟨Nat.le_of_ble_eq_true rfl, Nat.le_of_ble_eq_true rfl⟩) hS (fun q _ h => hFc q h) hFc (fun u t H locs ht hvm hw hB hz1 hk1 hS => ?_)
    obtain ⟨hP1, hD1⟩ := hB
    rw [ht] at hP1
    have hP := hP1
    have hD := hD1.weaken (fun _ _ _ h => hFc _ h)
    refine lv_goto (tgt := 181) hx hb d_Mo_named_61 rfl ?_
    have hR : k_named_52 x = m_fail x 4 (x.1 4) := by rw [k_named_52]
    refine nm_W1 hR ?_
    exact W.vret hx hb hr (fun t ht hW => ⟨⟨(), rfl, trivial, ⟨by rw [ht]; exact hP, hD⟩⟩, hS.F ht⟩) hS.2.2 d_Mo_named_181
  unfold o_named at hk
  refine lv_aload_n hx hb d_Mo_named_0 rfl (lv_at hl 0 rfl) ?_
  refine lv_aload_n hx hb d_Mo_named_1 rfl (lv_at hl 0 rfl) ?_
  refine nm_get hx hb hg hown hK hP 5 (by decide) (by decide) (hg _ mw_895) d_Mo_named_2 ?_
  obtain ⟨hi, hk⟩ := hk
  refine vp_callSi (va_Run.run (va_runV (As := [.int (x.1 5)]) (rest := []) ⟨hx, hb, hml, hown, hts⟩ (t_find l G _ mo ad x (x.1 5) hi) (cwV 1 hts (nn_gV mw_1076 mw_1073 mw_1075 mw_55 mw_94) rfl rfl rfl (by decide +kernel) ⟨Nat.le_of_ble_eq_true rfl, Nat.le_of_ble_eq_true rfl⟩) (nn_preV (va_recv hK hP rfl (q0 := 0) rfl) hP hD hK hN) rfl rfl hl.1 rfl (lv_room (Nat.le_of_ble_eq_true rfl)) d_Mo_named_5 ⟨Nat.le_of_ble_eq_true rfl, Nat.le_of_ble_eq_true rfl⟩)) (fun r2 er2 => ?_)
  subst er2
  refine lv_istore_n (lv' := [(1, .int (m_find x (x.1 5))), (0, .ref mo)]) hx hb d_Mo_named_8 rfl hl (by decide) rfl (fun ls hl => ?_)
  refine lv_aload_n hx hb d_Mo_named_9 rfl (lv_at hl 1 rfl) ?_
  obtain ⟨hi, hk⟩ := hk
  have hFc := nm_free hD hS hA
  refine va_calli (va_runV (As := []) (rest := []) ⟨hx, hb, hml, hown, hts⟩ (t_peek l G _ mo ad x hi) (cwV 0 hts (nn_gV mw_1108 mw_1105 mw_1107 mw_63 mw_94) rfl rfl rfl (by decide +kernel) ⟨Nat.le_of_ble_eq_true rfl, Nat.le_of_ble_eq_true rfl⟩) (nn_preV (va_recv hK hP rfl (q0 := 0) rfl) hP hD hK hN) rfl rfl hl.1 rfl (lv_room (Nat.le_of_ble_eq_true rfl)) d_Mo_named_10 ⟨Nat.le_of_ble_eq_true rfl, Nat.le_of_ble_eq_true rfl⟩) hS (fun q _ h => hFc q h) hFc (fun r3 u t H locs ht hvm hw hB hz1 hk1 hS => ?_)
  subst hw
  obtain ⟨hP1, hD1⟩ := hB
  rw [ht] at hP1
  have hP := hP1
  have hD := hD1.weaken (fun _ _ _ h => hFc _ h)
  refine lv_istore_n (lv' := [(2, .int ((m_peek x).2)), (1, .int (m_find x (x.1 5))), (0, .ref mo)]) hx hb d_Mo_named_13 rfl hl (by decide) rfl (fun ls hl => ?_)
  refine lv_iload_n hx hb d_Mo_named_14 rfl (lv_at hl 1 rfl) ?_
  refine lv_if_ge (tgt := 30) hx hb d_Mo_named_15 rfl (fun hc15 => ?_) (fun hc15 => ?_)
  · skip
    have hk := hk.1 hc15
    refine lv_aload_n hx hb d_Mo_named_30 rfl (lv_at hl 2 rfl) ?_
    refine nm_getA hx hb hg hown hK hP 17 (by decide) (by decide) (hg _ mw_907) d_Mo_named_31 ?_
    refine lv_iload_n hx hb d_Mo_named_34 rfl (lv_at hl 1 rfl) ?_
    obtain ⟨hi, hk⟩ := hk
    refine nm_ld hx hb hK hP 17 5 rfl (by decide) hi d_Mo_named_35 ?_
    refine lv_iconst (v := 2) hx hb d_Mo_named_36 (by decide) ?_
    refine lv_icmp_ne (tgt := 72) hx hb d_Mo_named_37 rfl (fun hc37 => ?_) (fun hc37 => ?_)
    · skip
      have hk := hk.2 hc37
      refine lv_aload_n hx hb d_Mo_named_72 rfl (lv_at hl 2 rfl) ?_
      refine nm_getA hx hb hg hown hK hP 17 (by decide) (by decide) (hg _ mw_907) d_Mo_named_73 ?_
      refine lv_iload_n hx hb d_Mo_named_76 rfl (lv_at hl 1 rfl) ?_
      obtain ⟨hi, hk⟩ := hk
      refine nm_ld hx hb hK hP 17 5 rfl (by decide) hi d_Mo_named_77 ?_
      refine lv_iconst (v := 1) hx hb d_Mo_named_78 (by decide) ?_
      refine lv_icmp_ne (tgt := 127) hx hb d_Mo_named_79 rfl (fun hc79 => ?_) (fun hc79 => ?_)
      · skip
        have hk := hk.2 hc79
        refine lv_iload_n hx hb d_Mo_named_127 rfl (lv_at hl 0 rfl) ?_
        refine lv_bipush (v := 127) hx hb d_Mo_named_128 (by decide) ?_
        refine lv_icmp_eq (tgt := 145) hx hb d_Mo_named_130 rfl (fun hc130 => ?_) (fun hc130 => ?_)
        · skip
          have hk := hk.1 hc130
          refine lv_aload_n hx hb d_Mo_named_145 rfl (lv_at hl 2 rfl) ?_
          obtain ⟨hi, hk⟩ := hk
          have hFc := nm_free hD hS hA
          refine va_callv (va_runV (As := []) (rest := []) ⟨hx, hb, hml, hown, hts⟩ (t_goOn l G _ mo ad ((m_peek x).1) hi) (cwV 0 hts (nn_gV mw_1068 mw_1065 mw_1067 mw_53 mw_94) rfl rfl rfl (by decide +kernel) ⟨Nat.le_of_ble_eq_true rfl, Nat.le_of_ble_eq_true rfl⟩) (nn_preV (va_recv hK hP rfl (q0 := 0) rfl) hP hD hK hN) rfl rfl hl.1 rfl (lv_room (Nat.le_of_ble_eq_true rfl)) d_Mo_named_146 ⟨Nat.le_of_ble_eq_true rfl, Nat.le_of_ble_eq_true rfl⟩) hS (fun q _ h => hFc q h) hFc (fun u t H locs ht hvm hw hB hz1 hk1 hS => ?_)
          obtain ⟨hP1, hD1⟩ := hB
          rw [ht] at hP1
          have hP := hP1
          have hD := hD1.weaken (fun _ _ _ h => hFc _ h)
          refine lv_aload_n hx hb d_Mo_named_149 rfl (lv_at hl 2 rfl) ?_
          obtain ⟨hi, hk⟩ := hk
          have hFc := nm_free hD hS hA
          refine va_callv (va_runV (As := []) (rest := []) ⟨hx, hb, hml, hown, hts⟩ (t_goOn l G _ mo ad (m_goOn ((m_peek x).1)) hi) (cwV 0 hts (nn_gV mw_1068 mw_1065 mw_1067 mw_53 mw_94) rfl rfl rfl (by decide +kernel) ⟨Nat.le_of_ble_eq_true rfl, Nat.le_of_ble_eq_true rfl⟩) (nn_preV (va_recv hK hP rfl (q0 := 0) rfl) hP hD hK hN) rfl rfl hl.1 rfl (lv_room (Nat.le_of_ble_eq_true rfl)) d_Mo_named_150 ⟨Nat.le_of_ble_eq_true rfl, Nat.le_of_ble_eq_true rfl⟩) hS (fun q _ h => hFc q h) hFc (fun u t H locs ht hvm hw hB hz1 hk1 hS => ?_)
          obtain ⟨hP1, hD1⟩ := hB
          rw [ht] at hP1
          have hP := hP1
          have hD := hD1.weaken (fun _ _ _ h => hFc _ h)
          refine lv_aload_n hx hb d_Mo_named_153 rfl (lv_at hl 2 rfl) ?_
          refine lv_bipush (v := 23) hx hb d_Mo_named_154 (by decide) ?_
          refine lv_bipush (v := 32) hx hb d_Mo_named_156 (by decide) ?_
          refine lv_aload_n hx hb d_Mo_named_158 rfl (lv_at hl 2 rfl) ?_
          refine lv_iload_n hx hb d_Mo_named_159 rfl (lv_at hl 1 rfl) ?_
          obtain ⟨hi, hk⟩ := hk
          refine vp_callSi (va_Run.run (va_runV (As := [.int (m_find x (x.1 5))]) (rest := [.int 32, .int 23, .ref mo]) ⟨hx, hb, hml, hown, hts⟩ (t_links l G _ mo ad (m_goOn (m_goOn ((m_peek x).1))) (m_find x (x.1 5)) hi) (cwV 1 hts (nn_gV mw_1124 mw_1121 mw_1123 mw_67 mw_94) rfl rfl rfl (by decide +kernel) ⟨Nat.le_of_ble_eq_true rfl, Nat.le_of_ble_eq_true rfl⟩) (nn_preV (va_recv hK hP rfl (q0 := 0) rfl) hP hD hK hN) rfl rfl hl.1 rfl (lv_room (Nat.le_of_ble_eq_true rfl)) d_Mo_named_160 ⟨Nat.le_of_ble_eq_true rfl, Nat.le_of_ble_eq_true rfl⟩)) (fun r6 er6 => ?_)
          subst er6
          refine lv_iadd hx hb d_Mo_named_163 ?_
          refine lv_aload_n hx hb d_Mo_named_164 rfl (lv_at hl 2 rfl) ?_
          refine nm_getA hx hb hg hown hK hP 19 (by decide) (by decide) (hg _ mw_909) d_Mo_named_165 ?_
          refine lv_iload_n hx hb d_Mo_named_168 rfl (lv_at hl 1 rfl) ?_
          obtain ⟨hi, hk⟩ := hk
          refine nm_ld hx hb hK hP 19 7 rfl (by decide) hi d_Mo_named_169 ?_
          obtain ⟨hi, hk⟩ := hk
          have hFc := nm_free hD hS hA
          refine va_callv (va_runV (As := [.int 23, .int (32 + (m_links (m_goOn (m_goOn ((m_peek x).1))) (m_find x (x.1 5)))), .int (nm_g (m_goOn (m_goOn ((m_peek x).1))) 19 (m_find x (x.1 5)))]) (rest := []) ⟨hx, hb, hml, hown, hts⟩ (t_push l G _ mo ad (m_goOn (m_goOn ((m_peek x).1))) 23 (32 + (m_links (m_goOn (m_goOn ((m_peek x).1))) (m_find x (x.1 5)))) (nm_g (m_goOn (m_goOn ((m_peek x).1))) 19 (m_find x (x.1 5))) hi) (cwV 3 hts (nn_gV mw_1028 mw_1025 mw_1027 mw_46 mw_94) rfl rfl rfl (by decide +kernel) ⟨Nat.le_of_ble_eq_true rfl, Nat.le_of_ble_eq_true rfl⟩) (nn_preV (va_recv hK hP rfl (q0 := 0) rfl) hP hD hK hN) rfl rfl hl.1 rfl (lv_room (Nat.le_of_ble_eq_true rfl)) d_Mo_named_170 ⟨Nat.le_of_ble_eq_true rfl, Nat.le_of_ble_eq_true rfl⟩) hS (fun q _ h => hFc q h) hFc (fun u t H locs ht hvm hw hB hz1 hk1 hS => ?_)
          obtain ⟨hP1, hD1⟩ := hB
          rw [ht] at hP1
          have hP := hP1
          have hD := hD1.weaken (fun _ _ _ h => hFc _ h)
          refine lv_aload_n hx hb d_Mo_named_173 rfl (lv_at hl 2 rfl) ?_
          refine lv_bipush (v := 14) hx hb d_Mo_named_174 (by decide) ?_
          refine lv_iconst (v := 0) hx hb d_Mo_named_176 (by decide) ?_
          refine lv_iconst (v := 0) hx hb d_Mo_named_177 (by decide) ?_
          obtain ⟨hi, hk⟩ := hk
          have hFc := nm_free hD hS hA
          refine va_callv (va_runV (As := [.int 14, .int 0, .int 0]) (rest := []) ⟨hx, hb, hml, hown, hts⟩ (t_push l G _ mo ad (m_push (m_goOn (m_goOn ((m_peek x).1))) 23 (32 + (m_links (m_goOn (m_goOn ((m_peek x).1))) (m_find x (x.1 5)))) (nm_g (m_goOn (m_goOn ((m_peek x).1))) 19 (m_find x (x.1 5)))) 14 0 0 hi) (cwV 3 hts (nn_gV mw_1028 mw_1025 mw_1027 mw_46 mw_94) rfl rfl rfl (by decide +kernel) ⟨Nat.le_of_ble_eq_true rfl, Nat.le_of_ble_eq_true rfl⟩) (nn_preV (va_recv hK hP rfl (q0 := 0) rfl) hP hD hK hN) rfl rfl hl.1 rfl (lv_room (Nat.le_of_ble_eq_true rfl)) d_Mo_named_178 ⟨Nat.le_of_ble_eq_true rfl, Nat.le_of_ble_eq_true rfl⟩) hS (fun q _ h => hFc q h) hFc (fun u t H locs ht hvm hw hB hz1 hk1 hS => ?_)
          obtain ⟨hP1, hD1⟩ := hB
          rw [ht] at hP1
          have hP := hP1
          have hD := hD1.weaken (fun _ _ _ h => hFc _ h)
          have hR : m_named x = m_push (m_push (m_goOn (m_goOn ((m_peek x).1))) 23 (32 + (m_links (m_goOn (m_goOn ((m_peek x).1))) (m_find x (x.1 5)))) (nm_g (m_goOn (m_goOn ((m_peek x).1))) 19 (m_find x (x.1 5)))) 14 0 0 := by rw [m_named]; rw [if_pos hc15]; rw [if_neg hc37]; rw [if_neg hc79]; rw [if_pos hc130]
          refine nm_W1 hR ?_
          exact W.vret hx hb hr (fun t ht hW => ⟨⟨(), rfl, trivial, ⟨by rw [ht]; exact hP, hD⟩⟩, hS.F ht⟩) hS.2.2 d_Mo_named_181
        · skip
          have hk := hk.2 hc130
          refine lv_aload_n hx hb d_Mo_named_133 rfl (lv_at hl 2 rfl) ?_
          refine lv_iconst (v := 4) hx hb d_Mo_named_134 (by decide) ?_
          refine lv_aload_n hx hb d_Mo_named_135 rfl (lv_at hl 2 rfl) ?_
          refine nm_get hx hb hg hown hK hP 4 (by decide) (by decide) (hg _ mw_894) d_Mo_named_136 ?_
          have hFc := nm_free hD hS hA
          refine va_callv (va_runV (As := [.int 4, .int (((m_peek x).1).1 4)]) (rest := []) ⟨hx, hb, hml, hown, hts⟩ (t_fail l G _ mo ad ((m_peek x).1) 4 (((m_peek x).1).1 4)) (cwV 2 hts (nn_gV mw_1080 mw_1077 mw_1079 mw_56 mw_94) rfl rfl rfl (by decide +kernel) ⟨Nat.le_of_ble_eq_true rfl, Nat.le_of_ble_eq_true rfl⟩) (nn_preV (va_recv hK hP rfl (q0 := 0) rfl) hP hD hK hN) rfl rfl hl.1 rfl (lv_room (Nat.le_of_ble_eq_true rfl)) d_Mo_named_139 ⟨Nat.le_of_ble_eq_true rfl, Nat.le_of_ble_eq_true rfl⟩) hS (fun q _ h => hFc q h) hFc (fun u t H locs ht hvm hw hB hz1 hk1 hS => ?_)
          obtain ⟨hP1, hD1⟩ := hB
          rw [ht] at hP1
          have hP := hP1
          have hD := hD1.weaken (fun _ _ _ h => hFc _ h)
          refine lv_goto (tgt := 181) hx hb d_Mo_named_142 rfl ?_
          have hR : m_named x = m_fail ((m_peek x).1) 4 (((m_peek x).1).1 4) := by rw [m_named]; rw [if_pos hc15]; rw [if_neg hc37]; rw [if_neg hc79]; rw [if_neg hc130]
          refine nm_W1 hR ?_
          exact W.vret hx hb hr (fun t ht hW => ⟨⟨(), rfl, trivial, ⟨by rw [ht]; exact hP, hD⟩⟩, hS.F ht⟩) hS.2.2 d_Mo_named_181
      · skip
        have hk := hk.1 hc79
        refine lv_iload_n hx hb d_Mo_named_82 rfl (lv_at hl 0 rfl) ?_
        refine lv_bipush (v := 91) hx hb d_Mo_named_83 (by decide) ?_
        refine lv_icmp_eq (tgt := 100) hx hb d_Mo_named_85 rfl (fun hc85 => ?_) (fun hc85 => ?_)
        · skip
          have hk := hk.1 hc85
          refine lv_aload_n hx hb d_Mo_named_100 rfl (lv_at hl 2 rfl) ?_
          obtain ⟨hi, hk⟩ := hk
          have hFc := nm_free hD hS hA
          refine va_callv (va_runV (As := []) (rest := []) ⟨hx, hb, hml, hown, hts⟩ (t_goOn l G _ mo ad ((m_peek x).1) hi) (cwV 0 hts (nn_gV mw_1068 mw_1065 mw_1067 mw_53 mw_94) rfl rfl rfl (by decide +kernel) ⟨Nat.le_of_ble_eq_true rfl, Nat.le_of_ble_eq_true rfl⟩) (nn_preV (va_recv hK hP rfl (q0 := 0) rfl) hP hD hK hN) rfl rfl hl.1 rfl (lv_room (Nat.le_of_ble_eq_true rfl)) d_Mo_named_101 ⟨Nat.le_of_ble_eq_true rfl, Nat.le_of_ble_eq_true rfl⟩) hS (fun q _ h => hFc q h) hFc (fun u t H locs ht hvm hw hB hz1 hk1 hS => ?_)
          obtain ⟨hP1, hD1⟩ := hB
          rw [ht] at hP1
          have hP := hP1
          have hD := hD1.weaken (fun _ _ _ h => hFc _ h)
          refine lv_aload_n hx hb d_Mo_named_104 rfl (lv_at hl 2 rfl) ?_
          obtain ⟨hi, hk⟩ := hk
          have hFc := nm_free hD hS hA
          refine va_callv (va_runV (As := []) (rest := []) ⟨hx, hb, hml, hown, hts⟩ (t_open l G _ mo ad (m_goOn ((m_peek x).1)) hi) (cwV 0 hts (nn_gV mw_1116 mw_1113 mw_1115 mw_65 mw_94) rfl rfl rfl (by decide +kernel) ⟨Nat.le_of_ble_eq_true rfl, Nat.le_of_ble_eq_true rfl⟩) (nn_preV (va_recv hK hP rfl (q0 := 0) rfl) hP hD hK hN) rfl rfl hl.1 rfl (lv_room (Nat.le_of_ble_eq_true rfl)) d_Mo_named_105 ⟨Nat.le_of_ble_eq_true rfl, Nat.le_of_ble_eq_true rfl⟩) hS (fun q _ h => hFc q h) hFc (fun u t H locs ht hvm hw hB hz1 hk1 hS => ?_)
          obtain ⟨hP1, hD1⟩ := hB
          rw [ht] at hP1
          have hP := hP1
          have hD := hD1.weaken (fun _ _ _ h => hFc _ h)
          refine lv_aload_n hx hb d_Mo_named_108 rfl (lv_at hl 2 rfl) ?_
          refine lv_bipush (v := 21) hx hb d_Mo_named_109 (by decide) ?_
          refine lv_iload_n hx hb d_Mo_named_111 rfl (lv_at hl 1 rfl) ?_
          refine lv_iconst (v := 0) hx hb d_Mo_named_112 (by decide) ?_
          obtain ⟨hi, hk⟩ := hk
          have hFc := nm_free hD hS hA
          refine va_callv (va_runV (As := [.int 21, .int (m_find x (x.1 5)), .int 0]) (rest := []) ⟨hx, hb, hml, hown, hts⟩ (t_push l G _ mo ad (m_open (m_goOn ((m_peek x).1))) 21 (m_find x (x.1 5)) 0 hi) (cwV 3 hts (nn_gV mw_1028 mw_1025 mw_1027 mw_46 mw_94) rfl rfl rfl (by decide +kernel) ⟨Nat.le_of_ble_eq_true rfl, Nat.le_of_ble_eq_true rfl⟩) (nn_preV (va_recv hK hP rfl (q0 := 0) rfl) hP hD hK hN) rfl rfl hl.1 rfl (lv_room (Nat.le_of_ble_eq_true rfl)) d_Mo_named_113 ⟨Nat.le_of_ble_eq_true rfl, Nat.le_of_ble_eq_true rfl⟩) hS (fun q _ h => hFc q h) hFc (fun u t H locs ht hvm hw hB hz1 hk1 hS => ?_)
          obtain ⟨hP1, hD1⟩ := hB
          rw [ht] at hP1
          have hP := hP1
          have hD := hD1.weaken (fun _ _ _ h => hFc _ h)
          refine lv_aload_n hx hb d_Mo_named_116 rfl (lv_at hl 2 rfl) ?_
          refine lv_bipush (v := 14) hx hb d_Mo_named_117 (by decide) ?_
          refine lv_iconst (v := 0) hx hb d_Mo_named_119 (by decide) ?_
          refine lv_iconst (v := 0) hx hb d_Mo_named_120 (by decide) ?_
          obtain ⟨hi, hk⟩ := hk
          have hFc := nm_free hD hS hA
          refine va_callv (va_runV (As := [.int 14, .int 0, .int 0]) (rest := []) ⟨hx, hb, hml, hown, hts⟩ (t_push l G _ mo ad (m_push (m_open (m_goOn ((m_peek x).1))) 21 (m_find x (x.1 5)) 0) 14 0 0 hi) (cwV 3 hts (nn_gV mw_1028 mw_1025 mw_1027 mw_46 mw_94) rfl rfl rfl (by decide +kernel) ⟨Nat.le_of_ble_eq_true rfl, Nat.le_of_ble_eq_true rfl⟩) (nn_preV (va_recv hK hP rfl (q0 := 0) rfl) hP hD hK hN) rfl rfl hl.1 rfl (lv_room (Nat.le_of_ble_eq_true rfl)) d_Mo_named_121 ⟨Nat.le_of_ble_eq_true rfl, Nat.le_of_ble_eq_true rfl⟩) hS (fun q _ h => hFc q h) hFc (fun u t H locs ht hvm hw hB hz1 hk1 hS => ?_)
          obtain ⟨hP1, hD1⟩ := hB
          rw [ht] at hP1
          have hP := hP1
          have hD := hD1.weaken (fun _ _ _ h => hFc _ h)
          refine lv_goto (tgt := 181) hx hb d_Mo_named_124 rfl ?_
          have hR : m_named x = m_push (m_push (m_open (m_goOn ((m_peek x).1))) 21 (m_find x (x.1 5)) 0) 14 0 0 := by rw [m_named]; rw [if_pos hc15]; rw [if_neg hc37]; rw [if_pos hc79]; rw [if_pos hc85]
          refine nm_W1 hR ?_
          exact W.vret hx hb hr (fun t ht hW => ⟨⟨(), rfl, trivial, ⟨by rw [ht]; exact hP, hD⟩⟩, hS.F ht⟩) hS.2.2 d_Mo_named_181
        · skip
          have hk := hk.2 hc85
          refine lv_aload_n hx hb d_Mo_named_88 rfl (lv_at hl 2 rfl) ?_
          refine lv_iconst (v := 4) hx hb d_Mo_named_89 (by decide) ?_
          refine lv_aload_n hx hb d_Mo_named_90 rfl (lv_at hl 2 rfl) ?_
          refine nm_get hx hb hg hown hK hP 4 (by decide) (by decide) (hg _ mw_894) d_Mo_named_91 ?_
          have hFc := nm_free hD hS hA
          refine va_callv (va_runV (As := [.int 4, .int (((m_peek x).1).1 4)]) (rest := []) ⟨hx, hb, hml, hown, hts⟩ (t_fail l G _ mo ad ((m_peek x).1) 4 (((m_peek x).1).1 4)) (cwV 2 hts (nn_gV mw_1080 mw_1077 mw_1079 mw_56 mw_94) rfl rfl rfl (by decide +kernel) ⟨Nat.le_of_ble_eq_true rfl, Nat.le_of_ble_eq_true rfl⟩) (nn_preV (va_recv hK hP rfl (q0 := 0) rfl) hP hD hK hN) rfl rfl hl.1 rfl (lv_room (Nat.le_of_ble_eq_true rfl)) d_Mo_named_94 ⟨Nat.le_of_ble_eq_true rfl, Nat.le_of_ble_eq_true rfl⟩) hS (fun q _ h => hFc q h) hFc (fun u t H locs ht hvm hw hB hz1 hk1 hS => ?_)
          obtain ⟨hP1, hD1⟩ := hB
          rw [ht] at hP1
          have hP := hP1
          have hD := hD1.weaken (fun _ _ _ h => hFc _ h)
          refine lv_goto (tgt := 181) hx hb d_Mo_named_97 rfl ?_
          have hR : m_named x = m_fail ((m_peek x).1) 4 (((m_peek x).1).1 4) := by rw [m_named]; rw [if_pos hc15]; rw [if_neg hc37]; rw [if_pos hc79]; rw [if_neg hc85]
          refine nm_W1 hR ?_
          exact W.vret hx hb hr (fun t ht hW => ⟨⟨(), rfl, trivial, ⟨by rw [ht]; exact hP, hD⟩⟩, hS.F ht⟩) hS.2.2 d_Mo_named_181
    · skip
      have hk := hk.1 hc37
      refine lv_iload_n hx hb d_Mo_named_40 rfl (lv_at hl 0 rfl) ?_
      refine lv_bipush (v := 127) hx hb d_Mo_named_41 (by decide) ?_
      refine lv_icmp_eq (tgt := 52) hx hb d_Mo_named_43 rfl (fun hc43 => ?_) (fun hc43 => ?_)
      · skip
        have hk := hk.1 hc43
        have hl := lv_sub (l' := [(0, .ref mo)]) hl [2] rfl
        have hR : m_named x = k_named_52 ((m_peek x).1) := by rw [m_named]; rw [if_pos hc15]; rw [if_pos hc37]; rw [if_pos hc43]
        exact nm_W1 hR (J52 ((m_peek x).1) ls _ _ hk hl hP hD hS)
      · skip
        have hk := hk.2 hc43
        refine lv_iload_n hx hb d_Mo_named_46 rfl (lv_at hl 0 rfl) ?_
        refine lv_bipush (v := 91) hx hb d_Mo_named_47 (by decide) ?_
        refine lv_icmp_ne (tgt := 64) hx hb d_Mo_named_49 rfl (fun hc49 => ?_) (fun hc49 => ?_)
        · skip
          have hk := hk.2 hc49
          refine lv_aload_n hx hb d_Mo_named_64 rfl (lv_at hl 2 rfl) ?_
          refine lv_iload_n hx hb d_Mo_named_65 rfl (lv_at hl 1 rfl) ?_
          obtain ⟨hi, hk⟩ := hk
          have hFc := nm_free hD hS hA
          refine va_callv (va_runV (As := [.int (m_find x (x.1 5))]) (rest := []) ⟨hx, hb, hml, hown, hts⟩ (t_call l G _ mo ad ((m_peek x).1) (m_find x (x.1 5)) hi) (cwV 1 hts (nn_gV mw_1112 mw_1109 mw_1111 mw_64 mw_94) rfl rfl rfl (by decide +kernel) ⟨Nat.le_of_ble_eq_true rfl, Nat.le_of_ble_eq_true rfl⟩) (nn_preV (va_recv hK hP rfl (q0 := 0) rfl) hP hD hK hN) rfl rfl hl.1 rfl (lv_room (Nat.le_of_ble_eq_true rfl)) d_Mo_named_66 ⟨Nat.le_of_ble_eq_true rfl, Nat.le_of_ble_eq_true rfl⟩) hS (fun q _ h => hFc q h) hFc (fun u t H locs ht hvm hw hB hz1 hk1 hS => ?_)
          obtain ⟨hP1, hD1⟩ := hB
          rw [ht] at hP1
          have hP := hP1
          have hD := hD1.weaken (fun _ _ _ h => hFc _ h)
          refine lv_goto (tgt := 181) hx hb d_Mo_named_69 rfl ?_
          have hR : m_named x = m_call ((m_peek x).1) (m_find x (x.1 5)) := by rw [m_named]; rw [if_pos hc15]; rw [if_pos hc37]; rw [if_neg hc43]; rw [if_neg hc49]
          refine nm_W1 hR ?_
          exact W.vret hx hb hr (fun t ht hW => ⟨⟨(), rfl, trivial, ⟨by rw [ht]; exact hP, hD⟩⟩, hS.F ht⟩) hS.2.2 d_Mo_named_181
        · skip
          have hk := hk.1 hc49
          have hl := lv_sub (l' := [(0, .ref mo)]) hl [2] rfl
          have hR : m_named x = k_named_52 ((m_peek x).1) := by rw [m_named]; rw [if_pos hc15]; rw [if_pos hc37]; rw [if_neg hc43]; rw [if_pos hc49]
          exact nm_W1 hR (J52 ((m_peek x).1) ls _ _ hk hl hP hD hS)
  · skip
    have hk := hk.2 hc15
    refine lv_aload_n hx hb d_Mo_named_18 rfl (lv_at hl 2 rfl) ?_
    refine lv_iconst (v := 2) hx hb d_Mo_named_19 (by decide) ?_
    refine lv_aload_n hx hb d_Mo_named_20 rfl (lv_at hl 2 rfl) ?_
    refine nm_get hx hb hg hown hK hP 4 (by decide) (by decide) (hg _ mw_894) d_Mo_named_21 ?_
    have hFc := nm_free hD hS hA
    refine va_callv (va_runV (As := [.int 2, .int (((m_peek x).1).1 4)]) (rest := []) ⟨hx, hb, hml, hown, hts⟩ (t_fail l G _ mo ad ((m_peek x).1) 2 (((m_peek x).1).1 4)) (cwV 2 hts (nn_gV mw_1080 mw_1077 mw_1079 mw_56 mw_94) rfl rfl rfl (by decide +kernel) ⟨Nat.le_of_ble_eq_true rfl, Nat.le_of_ble_eq_true rfl⟩) (nn_preV (va_recv hK hP rfl (q0 := 0) rfl) hP hD hK hN) rfl rfl hl.1 rfl (lv_room (Nat.le_of_ble_eq_true rfl)) d_Mo_named_24 ⟨Nat.le_of_ble_eq_true rfl, Nat.le_of_ble_eq_true rfl⟩) hS (fun q _ h => hFc q h) hFc (fun u t H locs ht hvm hw hB hz1 hk1 hS => ?_)
    obtain ⟨hP1, hD1⟩ := hB
    rw [ht] at hP1
    have hP := hP1
    have hD := hD1.weaken (fun _ _ _ h => hFc _ h)
    refine lv_goto (tgt := 181) hx hb d_Mo_named_27 rfl ?_
    have hR : m_named x = m_fail ((m_peek x).1) 2 (((m_peek x).1).1 4) := by rw [m_named]; rw [if_neg hc15]
    refine nm_W1 hR ?_
    exact W.vret hx hb hr (fun t ht hW => ⟨⟨(), rfl, trivial, ⟨by rw [ht]; exact hP, hD⟩⟩, hS.F ht⟩) hS.2.2 d_Mo_named_181

theorem mw_62 : (.selects R_Mo y_Mo_named y_Mo_named : Cond) ∈ nn_gw := nn_at 62 (by decide +kernel) (by decide +kernel)
theorem mw_1101 : (.methodLink R_Mo 185 y_Mo_named : Cond) ∈ nn_gw := nn_at 1101 (by decide +kernel) (by decide +kernel)
theorem mw_1103 : (.instanceMethod y_Mo_named : Cond) ∈ nn_gw := nn_at 1103 (by decide +kernel) (by decide +kernel)
set_option maxRecDepth 100000 in
theorem mw_1104 : (.code y_Mo_named b_Mo_named 3 none : Cond) ∈ nn_gw := nn_at 1104 (by rfl) (by decide +kernel)
theorem d_Mo_statement_0 : decode b_Mo_statement 0 = .ok (.aload_n 0, 1) := by decide +kernel
theorem d_Mo_statement_1 : decode b_Mo_statement 1 = .ok (.getfield 88, 3) := by decide +kernel
theorem d_Mo_statement_4 : decode b_Mo_statement 4 = .ok (.tableswitch 196 2 14 #[68, 196, 196, 196, 196, 75, 196, 105, 196, 196, 136, 196, 170], 68) := by decide +kernel
theorem d_Mo_statement_72 : decode b_Mo_statement 72 = .ok (.aload_n 0, 1) := by decide +kernel
theorem d_Mo_statement_73 : decode b_Mo_statement 73 = .ok (.invokevirtual 185, 3) := by decide +kernel
theorem d_Mo_statement_76 : decode b_Mo_statement 76 = .ok (.goto 124, 3) := by decide +kernel
theorem d_Mo_statement_79 : decode b_Mo_statement 79 = .ok (.aload_n 0, 1) := by decide +kernel
theorem d_Mo_statement_80 : decode b_Mo_statement 80 = .ok (.invokevirtual 168, 3) := by decide +kernel
theorem d_Mo_statement_83 : decode b_Mo_statement 83 = .ok (.aload_n 0, 1) := by decide +kernel
theorem d_Mo_statement_84 : decode b_Mo_statement 84 = .ok (.bipush 7, 2) := by decide +kernel
theorem d_Mo_statement_86 : decode b_Mo_statement 86 = .ok (.iconst 0, 1) := by decide +kernel
theorem d_Mo_statement_87 : decode b_Mo_statement 87 = .ok (.iconst 0, 1) := by decide +kernel
theorem d_Mo_statement_88 : decode b_Mo_statement 88 = .ok (.invokevirtual 162, 3) := by decide +kernel
theorem d_Mo_statement_91 : decode b_Mo_statement 91 = .ok (.aload_n 0, 1) := by decide +kernel
theorem d_Mo_statement_92 : decode b_Mo_statement 92 = .ok (.iconst 5, 1) := by decide +kernel
theorem d_Mo_statement_93 : decode b_Mo_statement 93 = .ok (.iconst 0, 1) := by decide +kernel
theorem d_Mo_statement_94 : decode b_Mo_statement 94 = .ok (.iconst 0, 1) := by decide +kernel
theorem d_Mo_statement_95 : decode b_Mo_statement 95 = .ok (.invokevirtual 162, 3) := by decide +kernel
theorem d_Mo_statement_98 : decode b_Mo_statement 98 = .ok (.aload_n 0, 1) := by decide +kernel
theorem d_Mo_statement_99 : decode b_Mo_statement 99 = .ok (.bipush 6, 2) := by decide +kernel
theorem d_Mo_statement_101 : decode b_Mo_statement 101 = .ok (.iconst 0, 1) := by decide +kernel
theorem d_Mo_statement_102 : decode b_Mo_statement 102 = .ok (.iconst 0, 1) := by decide +kernel
theorem d_Mo_statement_103 : decode b_Mo_statement 103 = .ok (.invokevirtual 162, 3) := by decide +kernel
theorem d_Mo_statement_106 : decode b_Mo_statement 106 = .ok (.goto 94, 3) := by decide +kernel
theorem d_Mo_statement_109 : decode b_Mo_statement 109 = .ok (.aload_n 0, 1) := by decide +kernel
theorem d_Mo_statement_110 : decode b_Mo_statement 110 = .ok (.invokevirtual 168, 3) := by decide +kernel
theorem d_Mo_statement_113 : decode b_Mo_statement 113 = .ok (.aload_n 0, 1) := by decide +kernel
theorem d_Mo_statement_114 : decode b_Mo_statement 114 = .ok (.bipush 8, 2) := by decide +kernel
theorem d_Mo_statement_116 : decode b_Mo_statement 116 = .ok (.iconst 0, 1) := by decide +kernel
theorem d_Mo_statement_117 : decode b_Mo_statement 117 = .ok (.iconst 0, 1) := by decide +kernel
theorem d_Mo_statement_118 : decode b_Mo_statement 118 = .ok (.invokevirtual 162, 3) := by decide +kernel
theorem d_Mo_statement_121 : decode b_Mo_statement 121 = .ok (.aload_n 0, 1) := by decide +kernel
theorem d_Mo_statement_122 : decode b_Mo_statement 122 = .ok (.bipush 13, 2) := by decide +kernel
theorem d_Mo_statement_124 : decode b_Mo_statement 124 = .ok (.iconst 0, 1) := by decide +kernel
theorem d_Mo_statement_125 : decode b_Mo_statement 125 = .ok (.iconst 0, 1) := by decide +kernel
theorem d_Mo_statement_126 : decode b_Mo_statement 126 = .ok (.invokevirtual 162, 3) := by decide +kernel
theorem d_Mo_statement_129 : decode b_Mo_statement 129 = .ok (.aload_n 0, 1) := by decide +kernel
theorem d_Mo_statement_130 : decode b_Mo_statement 130 = .ok (.bipush 14, 2) := by decide +kernel
theorem d_Mo_statement_132 : decode b_Mo_statement 132 = .ok (.iconst 0, 1) := by decide +kernel
theorem d_Mo_statement_133 : decode b_Mo_statement 133 = .ok (.iconst 0, 1) := by decide +kernel
theorem d_Mo_statement_134 : decode b_Mo_statement 134 = .ok (.invokevirtual 162, 3) := by decide +kernel
theorem d_Mo_statement_137 : decode b_Mo_statement 137 = .ok (.goto 63, 3) := by decide +kernel
theorem d_Mo_statement_140 : decode b_Mo_statement 140 = .ok (.aload_n 0, 1) := by decide +kernel
theorem d_Mo_statement_141 : decode b_Mo_statement 141 = .ok (.invokevirtual 168, 3) := by decide +kernel
theorem d_Mo_statement_144 : decode b_Mo_statement 144 = .ok (.aload_n 0, 1) := by decide +kernel
theorem d_Mo_statement_145 : decode b_Mo_statement 145 = .ok (.bipush 11, 2) := by decide +kernel
theorem d_Mo_statement_147 : decode b_Mo_statement 147 = .ok (.aload_n 0, 1) := by decide +kernel
theorem d_Mo_statement_148 : decode b_Mo_statement 148 = .ok (.getfield 133, 3) := by decide +kernel
theorem d_Mo_statement_151 : decode b_Mo_statement 151 = .ok (.iconst 0, 1) := by decide +kernel
theorem d_Mo_statement_152 : decode b_Mo_statement 152 = .ok (.invokevirtual 162, 3) := by decide +kernel
theorem d_Mo_statement_155 : decode b_Mo_statement 155 = .ok (.aload_n 0, 1) := by decide +kernel
theorem d_Mo_statement_156 : decode b_Mo_statement 156 = .ok (.bipush 13, 2) := by decide +kernel
theorem d_Mo_statement_158 : decode b_Mo_statement 158 = .ok (.iconst 0, 1) := by decide +kernel
theorem d_Mo_statement_159 : decode b_Mo_statement 159 = .ok (.iconst 0, 1) := by decide +kernel
theorem d_Mo_statement_160 : decode b_Mo_statement 160 = .ok (.invokevirtual 162, 3) := by decide +kernel
theorem d_Mo_statement_163 : decode b_Mo_statement 163 = .ok (.aload_n 0, 1) := by decide +kernel
theorem d_Mo_statement_164 : decode b_Mo_statement 164 = .ok (.bipush 14, 2) := by decide +kernel
theorem d_Mo_statement_166 : decode b_Mo_statement 166 = .ok (.iconst 0, 1) := by decide +kernel
theorem d_Mo_statement_167 : decode b_Mo_statement 167 = .ok (.iconst 0, 1) := by decide +kernel
theorem d_Mo_statement_168 : decode b_Mo_statement 168 = .ok (.invokevirtual 162, 3) := by decide +kernel
theorem d_Mo_statement_171 : decode b_Mo_statement 171 = .ok (.goto 29, 3) := by decide +kernel
theorem d_Mo_statement_174 : decode b_Mo_statement 174 = .ok (.aload_n 0, 1) := by decide +kernel
theorem d_Mo_statement_175 : decode b_Mo_statement 175 = .ok (.invokevirtual 117, 3) := by decide +kernel
theorem d_Mo_statement_178 : decode b_Mo_statement 178 = .ok (.aload_n 0, 1) := by decide +kernel
theorem d_Mo_statement_179 : decode b_Mo_statement 179 = .ok (.bipush 23, 2) := by decide +kernel
theorem d_Mo_statement_181 : decode b_Mo_statement 181 = .ok (.sipush 144, 3) := by decide +kernel
theorem d_Mo_statement_184 : decode b_Mo_statement 184 = .ok (.bipush 10, 2) := by decide +kernel
theorem d_Mo_statement_186 : decode b_Mo_statement 186 = .ok (.invokevirtual 162, 3) := by decide +kernel
theorem d_Mo_statement_189 : decode b_Mo_statement 189 = .ok (.aload_n 0, 1) := by decide +kernel
theorem d_Mo_statement_190 : decode b_Mo_statement 190 = .ok (.bipush 14, 2) := by decide +kernel
theorem d_Mo_statement_192 : decode b_Mo_statement 192 = .ok (.iconst 0, 1) := by decide +kernel
theorem d_Mo_statement_193 : decode b_Mo_statement 193 = .ok (.iconst 0, 1) := by decide +kernel
theorem d_Mo_statement_194 : decode b_Mo_statement 194 = .ok (.invokevirtual 162, 3) := by decide +kernel
theorem d_Mo_statement_197 : decode b_Mo_statement 197 = .ok (.goto 3, 3) := by decide +kernel
theorem d_Mo_statement_200 : decode b_Mo_statement 200 = .ok (.return_, 1) := by decide +kernel

def m_statement (x : nM)  : nM := (if x.1 3 = 2 then (m_named x) else (if x.1 3 = 3 then x else (if x.1 3 = 4 then x else (if x.1 3 = 5 then x else (if x.1 3 = 6 then x else (if x.1 3 = 7 then (m_push (m_push (m_push (m_open x) 7 0 0) 5 0 0) 6 0 0) else (if x.1 3 = 8 then x else (if x.1 3 = 9 then (m_push (m_push (m_push (m_open x) 8 0 0) 13 0 0) 14 0 0) else (if x.1 3 = 10 then x else (if x.1 3 = 11 then x else (if x.1 3 = 12 then (m_push (m_push (m_push (m_open x) 11 ((m_open x).1 25) 0) 13 0 0) 14 0 0) else (if x.1 3 = 13 then x else (if x.1 3 = 14 then (m_push (m_push (m_goOn x) 23 144 10) 14 0 0) else x)))))))))))))
def o_statement (x : nM)  : Prop := ((x.1 3 = 2 → o_named x ∧ True) ∧ (¬ (x.1 3 = 2) → ((x.1 3 = 3 → True) ∧ (¬ (x.1 3 = 3) → ((x.1 3 = 4 → True) ∧ (¬ (x.1 3 = 4) → ((x.1 3 = 5 → True) ∧ (¬ (x.1 3 = 5) → ((x.1 3 = 6 → True) ∧ (¬ (x.1 3 = 6) → ((x.1 3 = 7 → o_open x ∧ o_push (m_open x) 7 0 0 ∧ o_push (m_push (m_open x) 7 0 0) 5 0 0 ∧ o_push (m_push (m_push (m_open x) 7 0 0) 5 0 0) 6 0 0 ∧ True) ∧ (¬ (x.1 3 = 7) → ((x.1 3 = 8 → True) ∧ (¬ (x.1 3 = 8) → ((x.1 3 = 9 → o_open x ∧ o_push (m_open x) 8 0 0 ∧ o_push (m_push (m_open x) 8 0 0) 13 0 0 ∧ o_push (m_push (m_push (m_open x) 8 0 0) 13 0 0) 14 0 0 ∧ True) ∧ (¬ (x.1 3 = 9) → ((x.1 3 = 10 → True) ∧ (¬ (x.1 3 = 10) → ((x.1 3 = 11 → True) ∧ (¬ (x.1 3 = 11) → ((x.1 3 = 12 → o_open x ∧ o_push (m_open x) 11 ((m_open x).1 25) 0 ∧ o_push (m_push (m_open x) 11 ((m_open x).1 25) 0) 13 0 0 ∧ o_push (m_push (m_push (m_open x) 11 ((m_open x).1 25) 0) 13 0 0) 14 0 0 ∧ True) ∧ (¬ (x.1 3 = 12) → ((x.1 3 = 13 → True) ∧ (¬ (x.1 3 = 13) → ((x.1 3 = 14 → o_goOn x ∧ o_push (m_goOn x) 23 144 10 ∧ o_push (m_push (m_goOn x) 23 144 10) 14 0 0 ∧ True) ∧ (¬ (x.1 3 = 14) → True))))))))))))))))))))))))))
set_option maxHeartbeats 4000000 in
set_option maxRecDepth 100000 in
theorem t_statement (l : Launch) (G : nn_G) (sz : Nat) (mo : Nat) (ad : Nat → Nat) (x : nM)  (hk : o_statement x) : Met l y_Mo_statement w_Mo_statement ({ frames := 6, cells := 0, slots := 0, locals := 129 }) (nn_P G [.ref mo] (nm_W G mo ad x) sz) (nm_Qv G mo ad (m_statement x) (va_A (nm_W G mo ad x) sz)) 0 0 (va_A (nm_W G mo ad x) sz) := by
  refine Met.ofW (cc := b_Mo_statement) (maxL := 1) (ret := none) (by decide) rfl ?_
  intro p e s m args below meth c s₁ B hml hv
  obtain ⟨rfl, hsz, hP, hK, hD0, hN⟩ := hv
  have hx := B.exec
  have hb := B.bytes
  have hr := B.returns
  have hts := atoms_spec (ws := w_Mo_statement) B.pre
  have hg : ∀ w ∈ nn_gw, w.before _ s = true := fun w h => hts w (List.mem_cons_of_mem _ h)
  have hown : s.vm.findClass R_Mo = some m.cls := findClass_of_methodNamed B.named
  subst hsz
  have hD := hD0.self (sz := s.heap.size)
  generalize hAe : va_A (nm_W G mo ad x) s.heap.size = A at hD ⊢
  have hA : ∀ q : Nat, s.heap.size ≤ q → A q := fun q h => by rw [← hAe]; exact Or.inr h
  clear hAe
  have hS : va_S A s.heap s.heap [] := va_S.rf
  have hP : va_P G.1 nn_cls (nm_W G mo ad x) s.heap := hP
  have hl := lv_entry ([.ref mo]) (n := 1) (Nat.le_of_ble_eq_true rfl)
  rw [lg_entry_eq]
  generalize (lg_sl ([.ref mo]) ++ List.replicate (1 - (lg_sl ([.ref mo])).length) Slot.unset).toArray = ls at hl ⊢
  have hl : lv_has ls 1 [(0, .ref mo)] := hl
  unfold o_statement at hk
  refine lv_aload_n hx hb d_Mo_statement_0 rfl (lv_at hl 0 rfl) ?_
  refine nm_get hx hb hg hown hK hP 3 (by decide) (by decide) (hg _ mw_893) d_Mo_statement_1 ?_
  by_cases hk4_2 : x.1 3 = 2
  · skip
    have hk := hk.1 hk4_2
    refine lv_tableIn (off := 68) (tgt := 72) hx hb d_Mo_statement_4 (by rw [hk4_2]; decide) (by rw [hk4_2]; decide) (by rw [hk4_2]; decide) rfl ?_
    refine lv_aload_n hx hb d_Mo_statement_72 rfl (lv_at hl 0 rfl) ?_
    obtain ⟨hi, hk⟩ := hk
    have hFc := nm_free hD hS hA
    refine va_callv (va_runV (As := []) (rest := []) ⟨hx, hb, hml, hown, hts⟩ (t_named l G _ mo ad x hi) (cwV 0 hts (nn_gV mw_1104 mw_1101 mw_1103 mw_62 mw_94) rfl rfl rfl (by decide +kernel) ⟨Nat.le_of_ble_eq_true rfl, Nat.le_of_ble_eq_true rfl⟩) (nn_preV (va_recv hK hP rfl (q0 := 0) rfl) hP hD hK hN) rfl rfl hl.1 rfl (lv_room (Nat.le_of_ble_eq_true rfl)) d_Mo_statement_73 ⟨Nat.le_of_ble_eq_true rfl, Nat.le_of_ble_eq_true rfl⟩) hS (fun q _ h => hFc q h) hFc (fun u t H locs ht hvm hw hB hz1 hk1 hS => ?_)
    obtain ⟨hP1, hD1⟩ := hB
    rw [ht] at hP1
    have hP := hP1
    have hD := hD1.weaken (fun _ _ _ h => hFc _ h)
    refine lv_goto (tgt := 200) hx hb d_Mo_statement_76 rfl ?_
    have hR : m_statement x = m_named x := by rw [m_statement]; rw [if_pos hk4_2]
    refine nm_W1 hR ?_
    exact W.vret hx hb hr (fun t ht hW => ⟨⟨(), rfl, trivial, ⟨by rw [ht]; exact hP, hD⟩⟩, hS.F ht⟩) hS.2.2 d_Mo_statement_200
  by_cases hk4_3 : x.1 3 = 3
  · skip
    have hk := (hk.2 hk4_2).1 hk4_3
    refine lv_tableIn (off := 196) (tgt := 200) hx hb d_Mo_statement_4 (by rw [hk4_3]; decide) (by rw [hk4_3]; decide) (by rw [hk4_3]; decide) rfl ?_
    have hR : m_statement x = x := by rw [m_statement]; rw [if_neg hk4_2]; rw [if_pos hk4_3]
    refine nm_W1 hR ?_
    exact W.vret hx hb hr (fun t ht hW => ⟨⟨(), rfl, trivial, ⟨by rw [ht]; exact hP, hD⟩⟩, hS.F ht⟩) hS.2.2 d_Mo_statement_200
  by_cases hk4_4 : x.1 3 = 4
  · skip
    have hk := ((hk.2 hk4_2).2 hk4_3).1 hk4_4
    refine lv_tableIn (off := 196) (tgt := 200) hx hb d_Mo_statement_4 (by rw [hk4_4]; decide) (by rw [hk4_4]; decide) (by rw [hk4_4]; decide) rfl ?_
    have hR : m_statement x = x := by rw [m_statement]; rw [if_neg hk4_2]; rw [if_neg hk4_3]; rw [if_pos hk4_4]
    refine nm_W1 hR ?_
    exact W.vret hx hb hr (fun t ht hW => ⟨⟨(), rfl, trivial, ⟨by rw [ht]; exact hP, hD⟩⟩, hS.F ht⟩) hS.2.2 d_Mo_statement_200
  by_cases hk4_5 : x.1 3 = 5
  · skip
    have hk := (((hk.2 hk4_2).2 hk4_3).2 hk4_4).1 hk4_5
    refine lv_tableIn (off := 196) (tgt := 200) hx hb d_Mo_statement_4 (by rw [hk4_5]; decide) (by rw [hk4_5]; decide) (by rw [hk4_5]; decide) rfl ?_
    have hR : m_statement x = x := by rw [m_statement]; rw [if_neg hk4_2]; rw [if_neg hk4_3]; rw [if_neg hk4_4]; rw [if_pos hk4_5]
    refine nm_W1 hR ?_
    exact W.vret hx hb hr (fun t ht hW => ⟨⟨(), rfl, trivial, ⟨by rw [ht]; exact hP, hD⟩⟩, hS.F ht⟩) hS.2.2 d_Mo_statement_200
  by_cases hk4_6 : x.1 3 = 6
  · skip
    have hk := ((((hk.2 hk4_2).2 hk4_3).2 hk4_4).2 hk4_5).1 hk4_6
    refine lv_tableIn (off := 196) (tgt := 200) hx hb d_Mo_statement_4 (by rw [hk4_6]; decide) (by rw [hk4_6]; decide) (by rw [hk4_6]; decide) rfl ?_
    have hR : m_statement x = x := by rw [m_statement]; rw [if_neg hk4_2]; rw [if_neg hk4_3]; rw [if_neg hk4_4]; rw [if_neg hk4_5]; rw [if_pos hk4_6]
    refine nm_W1 hR ?_
    exact W.vret hx hb hr (fun t ht hW => ⟨⟨(), rfl, trivial, ⟨by rw [ht]; exact hP, hD⟩⟩, hS.F ht⟩) hS.2.2 d_Mo_statement_200
  by_cases hk4_7 : x.1 3 = 7
  · skip
    have hk := (((((hk.2 hk4_2).2 hk4_3).2 hk4_4).2 hk4_5).2 hk4_6).1 hk4_7
    refine lv_tableIn (off := 75) (tgt := 79) hx hb d_Mo_statement_4 (by rw [hk4_7]; decide) (by rw [hk4_7]; decide) (by rw [hk4_7]; decide) rfl ?_
    refine lv_aload_n hx hb d_Mo_statement_79 rfl (lv_at hl 0 rfl) ?_
    obtain ⟨hi, hk⟩ := hk
    have hFc := nm_free hD hS hA
    refine va_callv (va_runV (As := []) (rest := []) ⟨hx, hb, hml, hown, hts⟩ (t_open l G _ mo ad x hi) (cwV 0 hts (nn_gV mw_1116 mw_1113 mw_1115 mw_65 mw_94) rfl rfl rfl (by decide +kernel) ⟨Nat.le_of_ble_eq_true rfl, Nat.le_of_ble_eq_true rfl⟩) (nn_preV (va_recv hK hP rfl (q0 := 0) rfl) hP hD hK hN) rfl rfl hl.1 rfl (lv_room (Nat.le_of_ble_eq_true rfl)) d_Mo_statement_80 ⟨Nat.le_of_ble_eq_true rfl, Nat.le_of_ble_eq_true rfl⟩) hS (fun q _ h => hFc q h) hFc (fun u t H locs ht hvm hw hB hz1 hk1 hS => ?_)
    obtain ⟨hP1, hD1⟩ := hB
    rw [ht] at hP1
    have hP := hP1
    have hD := hD1.weaken (fun _ _ _ h => hFc _ h)
    refine lv_aload_n hx hb d_Mo_statement_83 rfl (lv_at hl 0 rfl) ?_
    refine lv_bipush (v := 7) hx hb d_Mo_statement_84 (by decide) ?_
    refine lv_iconst (v := 0) hx hb d_Mo_statement_86 (by decide) ?_
    refine lv_iconst (v := 0) hx hb d_Mo_statement_87 (by decide) ?_
    obtain ⟨hi, hk⟩ := hk
    have hFc := nm_free hD hS hA
    refine va_callv (va_runV (As := [.int 7, .int 0, .int 0]) (rest := []) ⟨hx, hb, hml, hown, hts⟩ (t_push l G _ mo ad (m_open x) 7 0 0 hi) (cwV 3 hts (nn_gV mw_1028 mw_1025 mw_1027 mw_46 mw_94) rfl rfl rfl (by decide +kernel) ⟨Nat.le_of_ble_eq_true rfl, Nat.le_of_ble_eq_true rfl⟩) (nn_preV (va_recv hK hP rfl (q0 := 0) rfl) hP hD hK hN) rfl rfl hl.1 rfl (lv_room (Nat.le_of_ble_eq_true rfl)) d_Mo_statement_88 ⟨Nat.le_of_ble_eq_true rfl, Nat.le_of_ble_eq_true rfl⟩) hS (fun q _ h => hFc q h) hFc (fun u t H locs ht hvm hw hB hz1 hk1 hS => ?_)
    obtain ⟨hP1, hD1⟩ := hB
    rw [ht] at hP1
    have hP := hP1
    have hD := hD1.weaken (fun _ _ _ h => hFc _ h)
    refine lv_aload_n hx hb d_Mo_statement_91 rfl (lv_at hl 0 rfl) ?_
    refine lv_iconst (v := 5) hx hb d_Mo_statement_92 (by decide) ?_
    refine lv_iconst (v := 0) hx hb d_Mo_statement_93 (by decide) ?_
    refine lv_iconst (v := 0) hx hb d_Mo_statement_94 (by decide) ?_
    obtain ⟨hi, hk⟩ := hk
    have hFc := nm_free hD hS hA
    refine va_callv (va_runV (As := [.int 5, .int 0, .int 0]) (rest := []) ⟨hx, hb, hml, hown, hts⟩ (t_push l G _ mo ad (m_push (m_open x) 7 0 0) 5 0 0 hi) (cwV 3 hts (nn_gV mw_1028 mw_1025 mw_1027 mw_46 mw_94) rfl rfl rfl (by decide +kernel) ⟨Nat.le_of_ble_eq_true rfl, Nat.le_of_ble_eq_true rfl⟩) (nn_preV (va_recv hK hP rfl (q0 := 0) rfl) hP hD hK hN) rfl rfl hl.1 rfl (lv_room (Nat.le_of_ble_eq_true rfl)) d_Mo_statement_95 ⟨Nat.le_of_ble_eq_true rfl, Nat.le_of_ble_eq_true rfl⟩) hS (fun q _ h => hFc q h) hFc (fun u t H locs ht hvm hw hB hz1 hk1 hS => ?_)
    obtain ⟨hP1, hD1⟩ := hB
    rw [ht] at hP1
    have hP := hP1
    have hD := hD1.weaken (fun _ _ _ h => hFc _ h)
    refine lv_aload_n hx hb d_Mo_statement_98 rfl (lv_at hl 0 rfl) ?_
    refine lv_bipush (v := 6) hx hb d_Mo_statement_99 (by decide) ?_
    refine lv_iconst (v := 0) hx hb d_Mo_statement_101 (by decide) ?_
    refine lv_iconst (v := 0) hx hb d_Mo_statement_102 (by decide) ?_
    obtain ⟨hi, hk⟩ := hk
    have hFc := nm_free hD hS hA
    refine va_callv (va_runV (As := [.int 6, .int 0, .int 0]) (rest := []) ⟨hx, hb, hml, hown, hts⟩ (t_push l G _ mo ad (m_push (m_push (m_open x) 7 0 0) 5 0 0) 6 0 0 hi) (cwV 3 hts (nn_gV mw_1028 mw_1025 mw_1027 mw_46 mw_94) rfl rfl rfl (by decide +kernel) ⟨Nat.le_of_ble_eq_true rfl, Nat.le_of_ble_eq_true rfl⟩) (nn_preV (va_recv hK hP rfl (q0 := 0) rfl) hP hD hK hN) rfl rfl hl.1 rfl (lv_room (Nat.le_of_ble_eq_true rfl)) d_Mo_statement_103 ⟨Nat.le_of_ble_eq_true rfl, Nat.le_of_ble_eq_true rfl⟩) hS (fun q _ h => hFc q h) hFc (fun u t H locs ht hvm hw hB hz1 hk1 hS => ?_)
    obtain ⟨hP1, hD1⟩ := hB
    rw [ht] at hP1
    have hP := hP1
    have hD := hD1.weaken (fun _ _ _ h => hFc _ h)
    refine lv_goto (tgt := 200) hx hb d_Mo_statement_106 rfl ?_
    have hR : m_statement x = m_push (m_push (m_push (m_open x) 7 0 0) 5 0 0) 6 0 0 := by rw [m_statement]; rw [if_neg hk4_2]; rw [if_neg hk4_3]; rw [if_neg hk4_4]; rw [if_neg hk4_5]; rw [if_neg hk4_6]; rw [if_pos hk4_7]
    refine nm_W1 hR ?_
    exact W.vret hx hb hr (fun t ht hW => ⟨⟨(), rfl, trivial, ⟨by rw [ht]; exact hP, hD⟩⟩, hS.F ht⟩) hS.2.2 d_Mo_statement_200
  by_cases hk4_8 : x.1 3 = 8
  · skip
    have hk := ((((((hk.2 hk4_2).2 hk4_3).2 hk4_4).2 hk4_5).2 hk4_6).2 hk4_7).1 hk4_8
    refine lv_tableIn (off := 196) (tgt := 200) hx hb d_Mo_statement_4 (by rw [hk4_8]; decide) (by rw [hk4_8]; decide) (by rw [hk4_8]; decide) rfl ?_
    have hR : m_statement x = x := by rw [m_statement]; rw [if_neg hk4_2]; rw [if_neg hk4_3]; rw [if_neg hk4_4]; rw [if_neg hk4_5]; rw [if_neg hk4_6]; rw [if_neg hk4_7]; rw [if_pos hk4_8]
    refine nm_W1 hR ?_
    exact W.vret hx hb hr (fun t ht hW => ⟨⟨(), rfl, trivial, ⟨by rw [ht]; exact hP, hD⟩⟩, hS.F ht⟩) hS.2.2 d_Mo_statement_200
  by_cases hk4_9 : x.1 3 = 9
  · skip
    have hk := (((((((hk.2 hk4_2).2 hk4_3).2 hk4_4).2 hk4_5).2 hk4_6).2 hk4_7).2 hk4_8).1 hk4_9
    refine lv_tableIn (off := 105) (tgt := 109) hx hb d_Mo_statement_4 (by rw [hk4_9]; decide) (by rw [hk4_9]; decide) (by rw [hk4_9]; decide) rfl ?_
    refine lv_aload_n hx hb d_Mo_statement_109 rfl (lv_at hl 0 rfl) ?_
    obtain ⟨hi, hk⟩ := hk
    have hFc := nm_free hD hS hA
    refine va_callv (va_runV (As := []) (rest := []) ⟨hx, hb, hml, hown, hts⟩ (t_open l G _ mo ad x hi) (cwV 0 hts (nn_gV mw_1116 mw_1113 mw_1115 mw_65 mw_94) rfl rfl rfl (by decide +kernel) ⟨Nat.le_of_ble_eq_true rfl, Nat.le_of_ble_eq_true rfl⟩) (nn_preV (va_recv hK hP rfl (q0 := 0) rfl) hP hD hK hN) rfl rfl hl.1 rfl (lv_room (Nat.le_of_ble_eq_true rfl)) d_Mo_statement_110 ⟨Nat.le_of_ble_eq_true rfl, Nat.le_of_ble_eq_true rfl⟩) hS (fun q _ h => hFc q h) hFc (fun u t H locs ht hvm hw hB hz1 hk1 hS => ?_)
    obtain ⟨hP1, hD1⟩ := hB
    rw [ht] at hP1
    have hP := hP1
    have hD := hD1.weaken (fun _ _ _ h => hFc _ h)
    refine lv_aload_n hx hb d_Mo_statement_113 rfl (lv_at hl 0 rfl) ?_
    refine lv_bipush (v := 8) hx hb d_Mo_statement_114 (by decide) ?_
    refine lv_iconst (v := 0) hx hb d_Mo_statement_116 (by decide) ?_
    refine lv_iconst (v := 0) hx hb d_Mo_statement_117 (by decide) ?_
    obtain ⟨hi, hk⟩ := hk
    have hFc := nm_free hD hS hA
    refine va_callv (va_runV (As := [.int 8, .int 0, .int 0]) (rest := []) ⟨hx, hb, hml, hown, hts⟩ (t_push l G _ mo ad (m_open x) 8 0 0 hi) (cwV 3 hts (nn_gV mw_1028 mw_1025 mw_1027 mw_46 mw_94) rfl rfl rfl (by decide +kernel) ⟨Nat.le_of_ble_eq_true rfl, Nat.le_of_ble_eq_true rfl⟩) (nn_preV (va_recv hK hP rfl (q0 := 0) rfl) hP hD hK hN) rfl rfl hl.1 rfl (lv_room (Nat.le_of_ble_eq_true rfl)) d_Mo_statement_118 ⟨Nat.le_of_ble_eq_true rfl, Nat.le_of_ble_eq_true rfl⟩) hS (fun q _ h => hFc q h) hFc (fun u t H locs ht hvm hw hB hz1 hk1 hS => ?_)
    obtain ⟨hP1, hD1⟩ := hB
    rw [ht] at hP1
    have hP := hP1
    have hD := hD1.weaken (fun _ _ _ h => hFc _ h)
    refine lv_aload_n hx hb d_Mo_statement_121 rfl (lv_at hl 0 rfl) ?_
    refine lv_bipush (v := 13) hx hb d_Mo_statement_122 (by decide) ?_
    refine lv_iconst (v := 0) hx hb d_Mo_statement_124 (by decide) ?_
    refine lv_iconst (v := 0) hx hb d_Mo_statement_125 (by decide) ?_
    obtain ⟨hi, hk⟩ := hk
    have hFc := nm_free hD hS hA
    refine va_callv (va_runV (As := [.int 13, .int 0, .int 0]) (rest := []) ⟨hx, hb, hml, hown, hts⟩ (t_push l G _ mo ad (m_push (m_open x) 8 0 0) 13 0 0 hi) (cwV 3 hts (nn_gV mw_1028 mw_1025 mw_1027 mw_46 mw_94) rfl rfl rfl (by decide +kernel) ⟨Nat.le_of_ble_eq_true rfl, Nat.le_of_ble_eq_true rfl⟩) (nn_preV (va_recv hK hP rfl (q0 := 0) rfl) hP hD hK hN) rfl rfl hl.1 rfl (lv_room (Nat.le_of_ble_eq_true rfl)) d_Mo_statement_126 ⟨Nat.le_of_ble_eq_true rfl, Nat.le_of_ble_eq_true rfl⟩) hS (fun q _ h => hFc q h) hFc (fun u t H locs ht hvm hw hB hz1 hk1 hS => ?_)
    obtain ⟨hP1, hD1⟩ := hB
    rw [ht] at hP1
    have hP := hP1
    have hD := hD1.weaken (fun _ _ _ h => hFc _ h)
    refine lv_aload_n hx hb d_Mo_statement_129 rfl (lv_at hl 0 rfl) ?_
    refine lv_bipush (v := 14) hx hb d_Mo_statement_130 (by decide) ?_
    refine lv_iconst (v := 0) hx hb d_Mo_statement_132 (by decide) ?_
    refine lv_iconst (v := 0) hx hb d_Mo_statement_133 (by decide) ?_
    obtain ⟨hi, hk⟩ := hk
    have hFc := nm_free hD hS hA
    refine va_callv (va_runV (As := [.int 14, .int 0, .int 0]) (rest := []) ⟨hx, hb, hml, hown, hts⟩ (t_push l G _ mo ad (m_push (m_push (m_open x) 8 0 0) 13 0 0) 14 0 0 hi) (cwV 3 hts (nn_gV mw_1028 mw_1025 mw_1027 mw_46 mw_94) rfl rfl rfl (by decide +kernel) ⟨Nat.le_of_ble_eq_true rfl, Nat.le_of_ble_eq_true rfl⟩) (nn_preV (va_recv hK hP rfl (q0 := 0) rfl) hP hD hK hN) rfl rfl hl.1 rfl (lv_room (Nat.le_of_ble_eq_true rfl)) d_Mo_statement_134 ⟨Nat.le_of_ble_eq_true rfl, Nat.le_of_ble_eq_true rfl⟩) hS (fun q _ h => hFc q h) hFc (fun u t H locs ht hvm hw hB hz1 hk1 hS => ?_)
    obtain ⟨hP1, hD1⟩ := hB
    rw [ht] at hP1
    have hP := hP1
    have hD := hD1.weaken (fun _ _ _ h => hFc _ h)
    refine lv_goto (tgt := 200) hx hb d_Mo_statement_137 rfl ?_
    have hR : m_statement x = m_push (m_push (m_push (m_open x) 8 0 0) 13 0 0) 14 0 0 := by rw [m_statement]; rw [if_neg hk4_2]; rw [if_neg hk4_3]; rw [if_neg hk4_4]; rw [if_neg hk4_5]; rw [if_neg hk4_6]; rw [if_neg hk4_7]; rw [if_neg hk4_8]; rw [if_pos hk4_9]
    refine nm_W1 hR ?_
    exact W.vret hx hb hr (fun t ht hW => ⟨⟨(), rfl, trivial, ⟨by rw [ht]; exact hP, hD⟩⟩, hS.F ht⟩) hS.2.2 d_Mo_statement_200
  by_cases hk4_10 : x.1 3 = 10
  · skip
    have hk := ((((((((hk.2 hk4_2).2 hk4_3).2 hk4_4).2 hk4_5).2 hk4_6).2 hk4_7).2 hk4_8).2 hk4_9).1 hk4_10
    refine lv_tableIn (off := 196) (tgt := 200) hx hb d_Mo_statement_4 (by rw [hk4_10]; decide) (by rw [hk4_10]; decide) (by rw [hk4_10]; decide) rfl ?_
    have hR : m_statement x = x := by rw [m_statement]; rw [if_neg hk4_2]; rw [if_neg hk4_3]; rw [if_neg hk4_4]; rw [if_neg hk4_5]; rw [if_neg hk4_6]; rw [if_neg hk4_7]; rw [if_neg hk4_8]; rw [if_neg hk4_9]; rw [if_pos hk4_10]
    refine nm_W1 hR ?_
    exact W.vret hx hb hr (fun t ht hW => ⟨⟨(), rfl, trivial, ⟨by rw [ht]; exact hP, hD⟩⟩, hS.F ht⟩) hS.2.2 d_Mo_statement_200
  by_cases hk4_11 : x.1 3 = 11
  · skip
    have hk := (((((((((hk.2 hk4_2).2 hk4_3).2 hk4_4).2 hk4_5).2 hk4_6).2 hk4_7).2 hk4_8).2 hk4_9).2 hk4_10).1 hk4_11
    refine lv_tableIn (off := 196) (tgt := 200) hx hb d_Mo_statement_4 (by rw [hk4_11]; decide) (by rw [hk4_11]; decide) (by rw [hk4_11]; decide) rfl ?_
    have hR : m_statement x = x := by rw [m_statement]; rw [if_neg hk4_2]; rw [if_neg hk4_3]; rw [if_neg hk4_4]; rw [if_neg hk4_5]; rw [if_neg hk4_6]; rw [if_neg hk4_7]; rw [if_neg hk4_8]; rw [if_neg hk4_9]; rw [if_neg hk4_10]; rw [if_pos hk4_11]
    refine nm_W1 hR ?_
    exact W.vret hx hb hr (fun t ht hW => ⟨⟨(), rfl, trivial, ⟨by rw [ht]; exact hP, hD⟩⟩, hS.F ht⟩) hS.2.2 d_Mo_statement_200
  by_cases hk4_12 : x.1 3 = 12
  · skip
    have hk := ((((((((((hk.2 hk4_2).2 hk4_3).2 hk4_4).2 hk4_5).2 hk4_6).2 hk4_7).2 hk4_8).2 hk4_9).2 hk4_10).2 hk4_11).1 hk4_12
    refine lv_tableIn (off := 136) (tgt := 140) hx hb d_Mo_statement_4 (by rw [hk4_12]; decide) (by rw [hk4_12]; decide) (by rw [hk4_12]; decide) rfl ?_
    refine lv_aload_n hx hb d_Mo_statement_140 rfl (lv_at hl 0 rfl) ?_
    obtain ⟨hi, hk⟩ := hk
    have hFc := nm_free hD hS hA
    refine va_callv (va_runV (As := []) (rest := []) ⟨hx, hb, hml, hown, hts⟩ (t_open l G _ mo ad x hi) (cwV 0 hts (nn_gV mw_1116 mw_1113 mw_1115 mw_65 mw_94) rfl rfl rfl (by decide +kernel) ⟨Nat.le_of_ble_eq_true rfl, Nat.le_of_ble_eq_true rfl⟩) (nn_preV (va_recv hK hP rfl (q0 := 0) rfl) hP hD hK hN) rfl rfl hl.1 rfl (lv_room (Nat.le_of_ble_eq_true rfl)) d_Mo_statement_141 ⟨Nat.le_of_ble_eq_true rfl, Nat.le_of_ble_eq_true rfl⟩) hS (fun q _ h => hFc q h) hFc (fun u t H locs ht hvm hw hB hz1 hk1 hS => ?_)
    obtain ⟨hP1, hD1⟩ := hB
    rw [ht] at hP1
    have hP := hP1
    have hD := hD1.weaken (fun _ _ _ h => hFc _ h)
    refine lv_aload_n hx hb d_Mo_statement_144 rfl (lv_at hl 0 rfl) ?_
    refine lv_bipush (v := 11) hx hb d_Mo_statement_145 (by decide) ?_
    refine lv_aload_n hx hb d_Mo_statement_147 rfl (lv_at hl 0 rfl) ?_
    refine nm_get hx hb hg hown hK hP 25 (by decide) (by decide) (hg _ mw_915) d_Mo_statement_148 ?_
    refine lv_iconst (v := 0) hx hb d_Mo_statement_151 (by decide) ?_
    obtain ⟨hi, hk⟩ := hk
    have hFc := nm_free hD hS hA
    refine va_callv (va_runV (As := [.int 11, .int ((m_open x).1 25), .int 0]) (rest := []) ⟨hx, hb, hml, hown, hts⟩ (t_push l G _ mo ad (m_open x) 11 ((m_open x).1 25) 0 hi) (cwV 3 hts (nn_gV mw_1028 mw_1025 mw_1027 mw_46 mw_94) rfl rfl rfl (by decide +kernel) ⟨Nat.le_of_ble_eq_true rfl, Nat.le_of_ble_eq_true rfl⟩) (nn_preV (va_recv hK hP rfl (q0 := 0) rfl) hP hD hK hN) rfl rfl hl.1 rfl (lv_room (Nat.le_of_ble_eq_true rfl)) d_Mo_statement_152 ⟨Nat.le_of_ble_eq_true rfl, Nat.le_of_ble_eq_true rfl⟩) hS (fun q _ h => hFc q h) hFc (fun u t H locs ht hvm hw hB hz1 hk1 hS => ?_)
    obtain ⟨hP1, hD1⟩ := hB
    rw [ht] at hP1
    have hP := hP1
    have hD := hD1.weaken (fun _ _ _ h => hFc _ h)
    refine lv_aload_n hx hb d_Mo_statement_155 rfl (lv_at hl 0 rfl) ?_
    refine lv_bipush (v := 13) hx hb d_Mo_statement_156 (by decide) ?_
    refine lv_iconst (v := 0) hx hb d_Mo_statement_158 (by decide) ?_
    refine lv_iconst (v := 0) hx hb d_Mo_statement_159 (by decide) ?_
    obtain ⟨hi, hk⟩ := hk
    have hFc := nm_free hD hS hA
    refine va_callv (va_runV (As := [.int 13, .int 0, .int 0]) (rest := []) ⟨hx, hb, hml, hown, hts⟩ (t_push l G _ mo ad (m_push (m_open x) 11 ((m_open x).1 25) 0) 13 0 0 hi) (cwV 3 hts (nn_gV mw_1028 mw_1025 mw_1027 mw_46 mw_94) rfl rfl rfl (by decide +kernel) ⟨Nat.le_of_ble_eq_true rfl, Nat.le_of_ble_eq_true rfl⟩) (nn_preV (va_recv hK hP rfl (q0 := 0) rfl) hP hD hK hN) rfl rfl hl.1 rfl (lv_room (Nat.le_of_ble_eq_true rfl)) d_Mo_statement_160 ⟨Nat.le_of_ble_eq_true rfl, Nat.le_of_ble_eq_true rfl⟩) hS (fun q _ h => hFc q h) hFc (fun u t H locs ht hvm hw hB hz1 hk1 hS => ?_)
    obtain ⟨hP1, hD1⟩ := hB
    rw [ht] at hP1
    have hP := hP1
    have hD := hD1.weaken (fun _ _ _ h => hFc _ h)
    refine lv_aload_n hx hb d_Mo_statement_163 rfl (lv_at hl 0 rfl) ?_
    refine lv_bipush (v := 14) hx hb d_Mo_statement_164 (by decide) ?_
    refine lv_iconst (v := 0) hx hb d_Mo_statement_166 (by decide) ?_
    refine lv_iconst (v := 0) hx hb d_Mo_statement_167 (by decide) ?_
    obtain ⟨hi, hk⟩ := hk
    have hFc := nm_free hD hS hA
    refine va_callv (va_runV (As := [.int 14, .int 0, .int 0]) (rest := []) ⟨hx, hb, hml, hown, hts⟩ (t_push l G _ mo ad (m_push (m_push (m_open x) 11 ((m_open x).1 25) 0) 13 0 0) 14 0 0 hi) (cwV 3 hts (nn_gV mw_1028 mw_1025 mw_1027 mw_46 mw_94) rfl rfl rfl (by decide +kernel) ⟨Nat.le_of_ble_eq_true rfl, Nat.le_of_ble_eq_true rfl⟩) (nn_preV (va_recv hK hP rfl (q0 := 0) rfl) hP hD hK hN) rfl rfl hl.1 rfl (lv_room (Nat.le_of_ble_eq_true rfl)) d_Mo_statement_168 ⟨Nat.le_of_ble_eq_true rfl, Nat.le_of_ble_eq_true rfl⟩) hS (fun q _ h => hFc q h) hFc (fun u t H locs ht hvm hw hB hz1 hk1 hS => ?_)
    obtain ⟨hP1, hD1⟩ := hB
    rw [ht] at hP1
    have hP := hP1
    have hD := hD1.weaken (fun _ _ _ h => hFc _ h)
    refine lv_goto (tgt := 200) hx hb d_Mo_statement_171 rfl ?_
    have hR : m_statement x = m_push (m_push (m_push (m_open x) 11 ((m_open x).1 25) 0) 13 0 0) 14 0 0 := by rw [m_statement]; rw [if_neg hk4_2]; rw [if_neg hk4_3]; rw [if_neg hk4_4]; rw [if_neg hk4_5]; rw [if_neg hk4_6]; rw [if_neg hk4_7]; rw [if_neg hk4_8]; rw [if_neg hk4_9]; rw [if_neg hk4_10]; rw [if_neg hk4_11]; rw [if_pos hk4_12]
    refine nm_W1 hR ?_
    exact W.vret hx hb hr (fun t ht hW => ⟨⟨(), rfl, trivial, ⟨by rw [ht]; exact hP, hD⟩⟩, hS.F ht⟩) hS.2.2 d_Mo_statement_200
  by_cases hk4_13 : x.1 3 = 13
  · skip
    have hk := (((((((((((hk.2 hk4_2).2 hk4_3).2 hk4_4).2 hk4_5).2 hk4_6).2 hk4_7).2 hk4_8).2 hk4_9).2 hk4_10).2 hk4_11).2 hk4_12).1 hk4_13
    refine lv_tableIn (off := 196) (tgt := 200) hx hb d_Mo_statement_4 (by rw [hk4_13]; decide) (by rw [hk4_13]; decide) (by rw [hk4_13]; decide) rfl ?_
    have hR : m_statement x = x := by rw [m_statement]; rw [if_neg hk4_2]; rw [if_neg hk4_3]; rw [if_neg hk4_4]; rw [if_neg hk4_5]; rw [if_neg hk4_6]; rw [if_neg hk4_7]; rw [if_neg hk4_8]; rw [if_neg hk4_9]; rw [if_neg hk4_10]; rw [if_neg hk4_11]; rw [if_neg hk4_12]; rw [if_pos hk4_13]
    refine nm_W1 hR ?_
    exact W.vret hx hb hr (fun t ht hW => ⟨⟨(), rfl, trivial, ⟨by rw [ht]; exact hP, hD⟩⟩, hS.F ht⟩) hS.2.2 d_Mo_statement_200
  by_cases hk4_14 : x.1 3 = 14
  · skip
    have hk := ((((((((((((hk.2 hk4_2).2 hk4_3).2 hk4_4).2 hk4_5).2 hk4_6).2 hk4_7).2 hk4_8).2 hk4_9).2 hk4_10).2 hk4_11).2 hk4_12).2 hk4_13).1 hk4_14
    refine lv_tableIn (off := 170) (tgt := 174) hx hb d_Mo_statement_4 (by rw [hk4_14]; decide) (by rw [hk4_14]; decide) (by rw [hk4_14]; decide) rfl ?_
    refine lv_aload_n hx hb d_Mo_statement_174 rfl (lv_at hl 0 rfl) ?_
    obtain ⟨hi, hk⟩ := hk
    have hFc := nm_free hD hS hA
    refine va_callv (va_runV (As := []) (rest := []) ⟨hx, hb, hml, hown, hts⟩ (t_goOn l G _ mo ad x hi) (cwV 0 hts (nn_gV mw_1068 mw_1065 mw_1067 mw_53 mw_94) rfl rfl rfl (by decide +kernel) ⟨Nat.le_of_ble_eq_true rfl, Nat.le_of_ble_eq_true rfl⟩) (nn_preV (va_recv hK hP rfl (q0 := 0) rfl) hP hD hK hN) rfl rfl hl.1 rfl (lv_room (Nat.le_of_ble_eq_true rfl)) d_Mo_statement_175 ⟨Nat.le_of_ble_eq_true rfl, Nat.le_of_ble_eq_true rfl⟩) hS (fun q _ h => hFc q h) hFc (fun u t H locs ht hvm hw hB hz1 hk1 hS => ?_)
    obtain ⟨hP1, hD1⟩ := hB
    rw [ht] at hP1
    have hP := hP1
    have hD := hD1.weaken (fun _ _ _ h => hFc _ h)
    refine lv_aload_n hx hb d_Mo_statement_178 rfl (lv_at hl 0 rfl) ?_
    refine lv_bipush (v := 23) hx hb d_Mo_statement_179 (by decide) ?_
    refine lv_sipush (v := 144) hx hb d_Mo_statement_181 (by decide) ?_
    refine lv_bipush (v := 10) hx hb d_Mo_statement_184 (by decide) ?_
    obtain ⟨hi, hk⟩ := hk
    have hFc := nm_free hD hS hA
    refine va_callv (va_runV (As := [.int 23, .int 144, .int 10]) (rest := []) ⟨hx, hb, hml, hown, hts⟩ (t_push l G _ mo ad (m_goOn x) 23 144 10 hi) (cwV 3 hts (nn_gV mw_1028 mw_1025 mw_1027 mw_46 mw_94) rfl rfl rfl (by decide +kernel) ⟨Nat.le_of_ble_eq_true rfl, Nat.le_of_ble_eq_true rfl⟩) (nn_preV (va_recv hK hP rfl (q0 := 0) rfl) hP hD hK hN) rfl rfl hl.1 rfl (lv_room (Nat.le_of_ble_eq_true rfl)) d_Mo_statement_186 ⟨Nat.le_of_ble_eq_true rfl, Nat.le_of_ble_eq_true rfl⟩) hS (fun q _ h => hFc q h) hFc (fun u t H locs ht hvm hw hB hz1 hk1 hS => ?_)
    obtain ⟨hP1, hD1⟩ := hB
    rw [ht] at hP1
    have hP := hP1
    have hD := hD1.weaken (fun _ _ _ h => hFc _ h)
    refine lv_aload_n hx hb d_Mo_statement_189 rfl (lv_at hl 0 rfl) ?_
    refine lv_bipush (v := 14) hx hb d_Mo_statement_190 (by decide) ?_
    refine lv_iconst (v := 0) hx hb d_Mo_statement_192 (by decide) ?_
    refine lv_iconst (v := 0) hx hb d_Mo_statement_193 (by decide) ?_
    obtain ⟨hi, hk⟩ := hk
    have hFc := nm_free hD hS hA
    refine va_callv (va_runV (As := [.int 14, .int 0, .int 0]) (rest := []) ⟨hx, hb, hml, hown, hts⟩ (t_push l G _ mo ad (m_push (m_goOn x) 23 144 10) 14 0 0 hi) (cwV 3 hts (nn_gV mw_1028 mw_1025 mw_1027 mw_46 mw_94) rfl rfl rfl (by decide +kernel) ⟨Nat.le_of_ble_eq_true rfl, Nat.le_of_ble_eq_true rfl⟩) (nn_preV (va_recv hK hP rfl (q0 := 0) rfl) hP hD hK hN) rfl rfl hl.1 rfl (lv_room (Nat.le_of_ble_eq_true rfl)) d_Mo_statement_194 ⟨Nat.le_of_ble_eq_true rfl, Nat.le_of_ble_eq_true rfl⟩) hS (fun q _ h => hFc q h) hFc (fun u t H locs ht hvm hw hB hz1 hk1 hS => ?_)
    obtain ⟨hP1, hD1⟩ := hB
    rw [ht] at hP1
    have hP := hP1
    have hD := hD1.weaken (fun _ _ _ h => hFc _ h)
    refine lv_goto (tgt := 200) hx hb d_Mo_statement_197 rfl ?_
    have hR : m_statement x = m_push (m_push (m_goOn x) 23 144 10) 14 0 0 := by rw [m_statement]; rw [if_neg hk4_2]; rw [if_neg hk4_3]; rw [if_neg hk4_4]; rw [if_neg hk4_5]; rw [if_neg hk4_6]; rw [if_neg hk4_7]; rw [if_neg hk4_8]; rw [if_neg hk4_9]; rw [if_neg hk4_10]; rw [if_neg hk4_11]; rw [if_neg hk4_12]; rw [if_neg hk4_13]; rw [if_pos hk4_14]
    refine nm_W1 hR ?_
    exact W.vret hx hb hr (fun t ht hW => ⟨⟨(), rfl, trivial, ⟨by rw [ht]; exact hP, hD⟩⟩, hS.F ht⟩) hS.2.2 d_Mo_statement_200
  have hk := (((((((((((((hk.2 hk4_2).2 hk4_3).2 hk4_4).2 hk4_5).2 hk4_6).2 hk4_7).2 hk4_8).2 hk4_9).2 hk4_10).2 hk4_11).2 hk4_12).2 hk4_13).2 hk4_14)
  refine lv_tableOut (tgt := 200) hx hb d_Mo_statement_4 (by have q0 := lv_neT hk4_2 (show (2 : Int32).toInt = 2 by decide); have q1 := lv_neT hk4_3 (show (3 : Int32).toInt = 3 by decide); have q2 := lv_neT hk4_4 (show (4 : Int32).toInt = 4 by decide); have q3 := lv_neT hk4_5 (show (5 : Int32).toInt = 5 by decide); have q4 := lv_neT hk4_6 (show (6 : Int32).toInt = 6 by decide); have q5 := lv_neT hk4_7 (show (7 : Int32).toInt = 7 by decide); have q6 := lv_neT hk4_8 (show (8 : Int32).toInt = 8 by decide); have q7 := lv_neT hk4_9 (show (9 : Int32).toInt = 9 by decide); have q8 := lv_neT hk4_10 (show (10 : Int32).toInt = 10 by decide); have q9 := lv_neT hk4_11 (show (11 : Int32).toInt = 11 by decide); have q10 := lv_neT hk4_12 (show (12 : Int32).toInt = 12 by decide); have q11 := lv_neT hk4_13 (show (13 : Int32).toInt = 13 by decide); have q12 := lv_neT hk4_14 (show (14 : Int32).toInt = 14 by decide); omega) rfl ?_
  have hR : m_statement x = x := by rw [m_statement]; rw [if_neg hk4_2]; rw [if_neg hk4_3]; rw [if_neg hk4_4]; rw [if_neg hk4_5]; rw [if_neg hk4_6]; rw [if_neg hk4_7]; rw [if_neg hk4_8]; rw [if_neg hk4_9]; rw [if_neg hk4_10]; rw [if_neg hk4_11]; rw [if_neg hk4_12]; rw [if_neg hk4_13]; rw [if_neg hk4_14]
  refine nm_W1 hR ?_
  exact W.vret hx hb hr (fun t ht hW => ⟨⟨(), rfl, trivial, ⟨by rw [ht]; exact hP, hD⟩⟩, hS.F ht⟩) hS.2.2 d_Mo_statement_200

theorem d_Mo_row_0 : decode b_Mo_row 0 = .ok (.aload_n 0, 1) := by decide +kernel
theorem d_Mo_row_1 : decode b_Mo_row 1 = .ok (.getfield 88, 3) := by decide +kernel
theorem d_Mo_row_4 : decode b_Mo_row 4 = .ok (.bipush 59, 2) := by decide +kernel
theorem d_Mo_row_6 : decode b_Mo_row 6 = .ok (.if_icmp .ne 25, 3) := by decide +kernel
theorem d_Mo_row_9 : decode b_Mo_row 9 = .ok (.aload_n 0, 1) := by decide +kernel
theorem d_Mo_row_10 : decode b_Mo_row 10 = .ok (.invokevirtual 117, 3) := by decide +kernel
theorem d_Mo_row_13 : decode b_Mo_row 13 = .ok (.aload_n 0, 1) := by decide +kernel
theorem d_Mo_row_14 : decode b_Mo_row 14 = .ok (.iconst 5, 1) := by decide +kernel
theorem d_Mo_row_15 : decode b_Mo_row 15 = .ok (.iconst 0, 1) := by decide +kernel
theorem d_Mo_row_16 : decode b_Mo_row 16 = .ok (.iconst 0, 1) := by decide +kernel
theorem d_Mo_row_17 : decode b_Mo_row 17 = .ok (.invokevirtual 162, 3) := by decide +kernel
theorem d_Mo_row_20 : decode b_Mo_row 20 = .ok (.aload_n 0, 1) := by decide +kernel
theorem d_Mo_row_21 : decode b_Mo_row 21 = .ok (.bipush 6, 2) := by decide +kernel
theorem d_Mo_row_23 : decode b_Mo_row 23 = .ok (.iconst 0, 1) := by decide +kernel
theorem d_Mo_row_24 : decode b_Mo_row 24 = .ok (.iconst 0, 1) := by decide +kernel
theorem d_Mo_row_25 : decode b_Mo_row 25 = .ok (.invokevirtual 162, 3) := by decide +kernel
theorem d_Mo_row_28 : decode b_Mo_row 28 = .ok (.goto 9, 3) := by decide +kernel
theorem d_Mo_row_31 : decode b_Mo_row 31 = .ok (.aload_n 0, 1) := by decide +kernel
theorem d_Mo_row_32 : decode b_Mo_row 32 = .ok (.bipush 8, 2) := by decide +kernel
theorem d_Mo_row_34 : decode b_Mo_row 34 = .ok (.invokevirtual 149, 3) := by decide +kernel
theorem d_Mo_row_37 : decode b_Mo_row 37 = .ok (.return_, 1) := by decide +kernel

def m_row (x : nM)  : nM := (if x.1 3 = 59 then (m_push (m_push (m_goOn x) 5 0 0) 6 0 0) else (m_expect x 8))
def o_row (x : nM)  : Prop := ((x.1 3 = 59 → o_goOn x ∧ o_push (m_goOn x) 5 0 0 ∧ o_push (m_push (m_goOn x) 5 0 0) 6 0 0 ∧ True) ∧ (¬ (x.1 3 = 59) → o_expect x 8 ∧ True))
set_option maxHeartbeats 4000000 in
set_option maxRecDepth 100000 in
theorem t_row (l : Launch) (G : nn_G) (sz : Nat) (mo : Nat) (ad : Nat → Nat) (x : nM)  (hk : o_row x) : Met l y_Mo_row w_Mo_row ({ frames := 4, cells := 0, slots := 0, locals := 85 }) (nn_P G [.ref mo] (nm_W G mo ad x) sz) (nm_Qv G mo ad (m_row x) (va_A (nm_W G mo ad x) sz)) 0 0 (va_A (nm_W G mo ad x) sz) := by
  refine Met.ofW (cc := b_Mo_row) (maxL := 1) (ret := none) (by decide) rfl ?_
  intro p e s m args below meth c s₁ B hml hv
  obtain ⟨rfl, hsz, hP, hK, hD0, hN⟩ := hv
  have hx := B.exec
  have hb := B.bytes
  have hr := B.returns
  have hts := atoms_spec (ws := w_Mo_row) B.pre
  have hg : ∀ w ∈ nn_gw, w.before _ s = true := fun w h => hts w (List.mem_cons_of_mem _ h)
  have hown : s.vm.findClass R_Mo = some m.cls := findClass_of_methodNamed B.named
  subst hsz
  have hD := hD0.self (sz := s.heap.size)
  generalize hAe : va_A (nm_W G mo ad x) s.heap.size = A at hD ⊢
  have hA : ∀ q : Nat, s.heap.size ≤ q → A q := fun q h => by rw [← hAe]; exact Or.inr h
  clear hAe
  have hS : va_S A s.heap s.heap [] := va_S.rf
  have hP : va_P G.1 nn_cls (nm_W G mo ad x) s.heap := hP
  have hl := lv_entry ([.ref mo]) (n := 1) (Nat.le_of_ble_eq_true rfl)
  rw [lg_entry_eq]
  generalize (lg_sl ([.ref mo]) ++ List.replicate (1 - (lg_sl ([.ref mo])).length) Slot.unset).toArray = ls at hl ⊢
  have hl : lv_has ls 1 [(0, .ref mo)] := hl
  unfold o_row at hk
  refine lv_aload_n hx hb d_Mo_row_0 rfl (lv_at hl 0 rfl) ?_
  refine nm_get hx hb hg hown hK hP 3 (by decide) (by decide) (hg _ mw_893) d_Mo_row_1 ?_
  refine lv_bipush (v := 59) hx hb d_Mo_row_4 (by decide) ?_
  refine lv_icmp_ne (tgt := 31) hx hb d_Mo_row_6 rfl (fun hc6 => ?_) (fun hc6 => ?_)
  · skip
    have hk := hk.2 hc6
    refine lv_aload_n hx hb d_Mo_row_31 rfl (lv_at hl 0 rfl) ?_
    refine lv_bipush (v := 8) hx hb d_Mo_row_32 (by decide) ?_
    obtain ⟨hi, hk⟩ := hk
    have hFc := nm_free hD hS hA
    refine va_callv (va_runV (As := [.int 8]) (rest := []) ⟨hx, hb, hml, hown, hts⟩ (t_expect l G _ mo ad x 8 hi) (cwV 1 hts (nn_gV mw_1084 mw_1081 mw_1083 mw_57 mw_94) rfl rfl rfl (by decide +kernel) ⟨Nat.le_of_ble_eq_true rfl, Nat.le_of_ble_eq_true rfl⟩) (nn_preV (va_recv hK hP rfl (q0 := 0) rfl) hP hD hK hN) rfl rfl hl.1 rfl (lv_room (Nat.le_of_ble_eq_true rfl)) d_Mo_row_34 ⟨Nat.le_of_ble_eq_true rfl, Nat.le_of_ble_eq_true rfl⟩) hS (fun q _ h => hFc q h) hFc (fun u t H locs ht hvm hw hB hz1 hk1 hS => ?_)
    obtain ⟨hP1, hD1⟩ := hB
    rw [ht] at hP1
    have hP := hP1
    have hD := hD1.weaken (fun _ _ _ h => hFc _ h)
    have hR : m_row x = m_expect x 8 := by rw [m_row]; rw [if_neg hc6]
    refine nm_W1 hR ?_
    exact W.vret hx hb hr (fun t ht hW => ⟨⟨(), rfl, trivial, ⟨by rw [ht]; exact hP, hD⟩⟩, hS.F ht⟩) hS.2.2 d_Mo_row_37
  · skip
    have hk := hk.1 hc6
    refine lv_aload_n hx hb d_Mo_row_9 rfl (lv_at hl 0 rfl) ?_
    obtain ⟨hi, hk⟩ := hk
    have hFc := nm_free hD hS hA
    refine va_callv (va_runV (As := []) (rest := []) ⟨hx, hb, hml, hown, hts⟩ (t_goOn l G _ mo ad x hi) (cwV 0 hts (nn_gV mw_1068 mw_1065 mw_1067 mw_53 mw_94) rfl rfl rfl (by decide +kernel) ⟨Nat.le_of_ble_eq_true rfl, Nat.le_of_ble_eq_true rfl⟩) (nn_preV (va_recv hK hP rfl (q0 := 0) rfl) hP hD hK hN) rfl rfl hl.1 rfl (lv_room (Nat.le_of_ble_eq_true rfl)) d_Mo_row_10 ⟨Nat.le_of_ble_eq_true rfl, Nat.le_of_ble_eq_true rfl⟩) hS (fun q _ h => hFc q h) hFc (fun u t H locs ht hvm hw hB hz1 hk1 hS => ?_)
    obtain ⟨hP1, hD1⟩ := hB
    rw [ht] at hP1
    have hP := hP1
    have hD := hD1.weaken (fun _ _ _ h => hFc _ h)
    refine lv_aload_n hx hb d_Mo_row_13 rfl (lv_at hl 0 rfl) ?_
    refine lv_iconst (v := 5) hx hb d_Mo_row_14 (by decide) ?_
    refine lv_iconst (v := 0) hx hb d_Mo_row_15 (by decide) ?_
    refine lv_iconst (v := 0) hx hb d_Mo_row_16 (by decide) ?_
    obtain ⟨hi, hk⟩ := hk
    have hFc := nm_free hD hS hA
    refine va_callv (va_runV (As := [.int 5, .int 0, .int 0]) (rest := []) ⟨hx, hb, hml, hown, hts⟩ (t_push l G _ mo ad (m_goOn x) 5 0 0 hi) (cwV 3 hts (nn_gV mw_1028 mw_1025 mw_1027 mw_46 mw_94) rfl rfl rfl (by decide +kernel) ⟨Nat.le_of_ble_eq_true rfl, Nat.le_of_ble_eq_true rfl⟩) (nn_preV (va_recv hK hP rfl (q0 := 0) rfl) hP hD hK hN) rfl rfl hl.1 rfl (lv_room (Nat.le_of_ble_eq_true rfl)) d_Mo_row_17 ⟨Nat.le_of_ble_eq_true rfl, Nat.le_of_ble_eq_true rfl⟩) hS (fun q _ h => hFc q h) hFc (fun u t H locs ht hvm hw hB hz1 hk1 hS => ?_)
    obtain ⟨hP1, hD1⟩ := hB
    rw [ht] at hP1
    have hP := hP1
    have hD := hD1.weaken (fun _ _ _ h => hFc _ h)
    refine lv_aload_n hx hb d_Mo_row_20 rfl (lv_at hl 0 rfl) ?_
    refine lv_bipush (v := 6) hx hb d_Mo_row_21 (by decide) ?_
    refine lv_iconst (v := 0) hx hb d_Mo_row_23 (by decide) ?_
    refine lv_iconst (v := 0) hx hb d_Mo_row_24 (by decide) ?_
    obtain ⟨hi, hk⟩ := hk
    have hFc := nm_free hD hS hA
    refine va_callv (va_runV (As := [.int 6, .int 0, .int 0]) (rest := []) ⟨hx, hb, hml, hown, hts⟩ (t_push l G _ mo ad (m_push (m_goOn x) 5 0 0) 6 0 0 hi) (cwV 3 hts (nn_gV mw_1028 mw_1025 mw_1027 mw_46 mw_94) rfl rfl rfl (by decide +kernel) ⟨Nat.le_of_ble_eq_true rfl, Nat.le_of_ble_eq_true rfl⟩) (nn_preV (va_recv hK hP rfl (q0 := 0) rfl) hP hD hK hN) rfl rfl hl.1 rfl (lv_room (Nat.le_of_ble_eq_true rfl)) d_Mo_row_25 ⟨Nat.le_of_ble_eq_true rfl, Nat.le_of_ble_eq_true rfl⟩) hS (fun q _ h => hFc q h) hFc (fun u t H locs ht hvm hw hB hz1 hk1 hS => ?_)
    obtain ⟨hP1, hD1⟩ := hB
    rw [ht] at hP1
    have hP := hP1
    have hD := hD1.weaken (fun _ _ _ h => hFc _ h)
    refine lv_goto (tgt := 37) hx hb d_Mo_row_28 rfl ?_
    have hR : m_row x = m_push (m_push (m_goOn x) 5 0 0) 6 0 0 := by rw [m_row]; rw [if_pos hc6]
    refine nm_W1 hR ?_
    exact W.vret hx hb hr (fun t ht hW => ⟨⟨(), rfl, trivial, ⟨by rw [ht]; exact hP, hD⟩⟩, hS.F ht⟩) hS.2.2 d_Mo_row_37

theorem d_Mo_branches_0 : decode b_Mo_branches 0 = .ok (.iload_n 1, 1) := by decide +kernel
theorem d_Mo_branches_1 : decode b_Mo_branches 1 = .ok (.bipush 8, 2) := by decide +kernel
theorem d_Mo_branches_3 : decode b_Mo_branches 3 = .ok (.if_icmp .ne 35, 3) := by decide +kernel
theorem d_Mo_branches_6 : decode b_Mo_branches 6 = .ok (.aload_n 0, 1) := by decide +kernel
theorem d_Mo_branches_7 : decode b_Mo_branches 7 = .ok (.bipush 10, 2) := by decide +kernel
theorem d_Mo_branches_9 : decode b_Mo_branches 9 = .ok (.invokevirtual 149, 3) := by decide +kernel
theorem d_Mo_branches_12 : decode b_Mo_branches 12 = .ok (.aload_n 0, 1) := by decide +kernel
theorem d_Mo_branches_13 : decode b_Mo_branches 13 = .ok (.bipush 9, 2) := by decide +kernel
theorem d_Mo_branches_15 : decode b_Mo_branches 15 = .ok (.aload_n 0, 1) := by decide +kernel
theorem d_Mo_branches_16 : decode b_Mo_branches 16 = .ok (.bipush 8, 2) := by decide +kernel
theorem d_Mo_branches_18 : decode b_Mo_branches 18 = .ok (.iconst 0, 1) := by decide +kernel
theorem d_Mo_branches_19 : decode b_Mo_branches 19 = .ok (.iconst 0, 1) := by decide +kernel
theorem d_Mo_branches_20 : decode b_Mo_branches 20 = .ok (.invokevirtual 152, 3) := by decide +kernel
theorem d_Mo_branches_23 : decode b_Mo_branches 23 = .ok (.iconst 0, 1) := by decide +kernel
theorem d_Mo_branches_24 : decode b_Mo_branches 24 = .ok (.invokevirtual 162, 3) := by decide +kernel
theorem d_Mo_branches_27 : decode b_Mo_branches 27 = .ok (.aload_n 0, 1) := by decide +kernel
theorem d_Mo_branches_28 : decode b_Mo_branches 28 = .ok (.bipush 6, 2) := by decide +kernel
theorem d_Mo_branches_30 : decode b_Mo_branches 30 = .ok (.iconst 0, 1) := by decide +kernel
theorem d_Mo_branches_31 : decode b_Mo_branches 31 = .ok (.iconst 0, 1) := by decide +kernel
theorem d_Mo_branches_32 : decode b_Mo_branches 32 = .ok (.invokevirtual 162, 3) := by decide +kernel
theorem d_Mo_branches_35 : decode b_Mo_branches 35 = .ok (.goto 161, 3) := by decide +kernel
theorem d_Mo_branches_38 : decode b_Mo_branches 38 = .ok (.iload_n 1, 1) := by decide +kernel
theorem d_Mo_branches_39 : decode b_Mo_branches 39 = .ok (.bipush 9, 2) := by decide +kernel
theorem d_Mo_branches_41 : decode b_Mo_branches 41 = .ok (.if_icmp .ne 52, 3) := by decide +kernel
theorem d_Mo_branches_44 : decode b_Mo_branches 44 = .ok (.aload_n 0, 1) := by decide +kernel
theorem d_Mo_branches_45 : decode b_Mo_branches 45 = .ok (.getfield 88, 3) := by decide +kernel
theorem d_Mo_branches_48 : decode b_Mo_branches 48 = .ok (.bipush 11, 2) := by decide +kernel
theorem d_Mo_branches_50 : decode b_Mo_branches 50 = .ok (.if_icmp .ne 43, 3) := by decide +kernel
theorem d_Mo_branches_53 : decode b_Mo_branches 53 = .ok (.aload_n 0, 1) := by decide +kernel
theorem d_Mo_branches_54 : decode b_Mo_branches 54 = .ok (.invokevirtual 117, 3) := by decide +kernel
theorem d_Mo_branches_57 : decode b_Mo_branches 57 = .ok (.aload_n 0, 1) := by decide +kernel
theorem d_Mo_branches_58 : decode b_Mo_branches 58 = .ok (.bipush 10, 2) := by decide +kernel
theorem d_Mo_branches_60 : decode b_Mo_branches 60 = .ok (.aload_n 0, 1) := by decide +kernel
theorem d_Mo_branches_61 : decode b_Mo_branches 61 = .ok (.bipush 7, 2) := by decide +kernel
theorem d_Mo_branches_63 : decode b_Mo_branches 63 = .ok (.iconst 0, 1) := by decide +kernel
theorem d_Mo_branches_64 : decode b_Mo_branches 64 = .ok (.iconst 0, 1) := by decide +kernel
theorem d_Mo_branches_65 : decode b_Mo_branches 65 = .ok (.invokevirtual 152, 3) := by decide +kernel
theorem d_Mo_branches_68 : decode b_Mo_branches 68 = .ok (.iconst 0, 1) := by decide +kernel
theorem d_Mo_branches_69 : decode b_Mo_branches 69 = .ok (.invokevirtual 162, 3) := by decide +kernel
theorem d_Mo_branches_72 : decode b_Mo_branches 72 = .ok (.aload_n 0, 1) := by decide +kernel
theorem d_Mo_branches_73 : decode b_Mo_branches 73 = .ok (.getfield 51, 3) := by decide +kernel
theorem d_Mo_branches_76 : decode b_Mo_branches 76 = .ok (.iload_n 2, 1) := by decide +kernel
theorem d_Mo_branches_77 : decode b_Mo_branches 77 = .ok (.aload_n 0, 1) := by decide +kernel
theorem d_Mo_branches_78 : decode b_Mo_branches 78 = .ok (.getfield 133, 3) := by decide +kernel
theorem d_Mo_branches_81 : decode b_Mo_branches 81 = .ok (.iastore, 1) := by decide +kernel
theorem d_Mo_branches_82 : decode b_Mo_branches 82 = .ok (.aload_n 0, 1) := by decide +kernel
theorem d_Mo_branches_83 : decode b_Mo_branches 83 = .ok (.bipush 6, 2) := by decide +kernel
theorem d_Mo_branches_85 : decode b_Mo_branches 85 = .ok (.iconst 0, 1) := by decide +kernel
theorem d_Mo_branches_86 : decode b_Mo_branches 86 = .ok (.iconst 0, 1) := by decide +kernel
theorem d_Mo_branches_87 : decode b_Mo_branches 87 = .ok (.invokevirtual 162, 3) := by decide +kernel
theorem d_Mo_branches_90 : decode b_Mo_branches 90 = .ok (.goto 106, 3) := by decide +kernel
theorem d_Mo_branches_93 : decode b_Mo_branches 93 = .ok (.iload_n 1, 1) := by decide +kernel
theorem d_Mo_branches_94 : decode b_Mo_branches 94 = .ok (.bipush 9, 2) := by decide +kernel
theorem d_Mo_branches_96 : decode b_Mo_branches 96 = .ok (.if_icmp .eq 9, 3) := by decide +kernel
theorem d_Mo_branches_99 : decode b_Mo_branches 99 = .ok (.iload_n 1, 1) := by decide +kernel
theorem d_Mo_branches_100 : decode b_Mo_branches 100 = .ok (.bipush 10, 2) := by decide +kernel
theorem d_Mo_branches_102 : decode b_Mo_branches 102 = .ok (.if_icmp .ne 26, 3) := by decide +kernel
theorem d_Mo_branches_105 : decode b_Mo_branches 105 = .ok (.aload_n 0, 1) := by decide +kernel
theorem d_Mo_branches_106 : decode b_Mo_branches 106 = .ok (.getfield 51, 3) := by decide +kernel
theorem d_Mo_branches_109 : decode b_Mo_branches 109 = .ok (.iload_n 2, 1) := by decide +kernel
theorem d_Mo_branches_110 : decode b_Mo_branches 110 = .ok (.aload_n 0, 1) := by decide +kernel
theorem d_Mo_branches_111 : decode b_Mo_branches 111 = .ok (.getfield 133, 3) := by decide +kernel
theorem d_Mo_branches_114 : decode b_Mo_branches 114 = .ok (.iastore, 1) := by decide +kernel
theorem d_Mo_branches_115 : decode b_Mo_branches 115 = .ok (.aload_n 0, 1) := by decide +kernel
theorem d_Mo_branches_116 : decode b_Mo_branches 116 = .ok (.dup, 1) := by decide +kernel
theorem d_Mo_branches_117 : decode b_Mo_branches 117 = .ok (.getfield 139, 3) := by decide +kernel
theorem d_Mo_branches_120 : decode b_Mo_branches 120 = .ok (.iconst 1, 1) := by decide +kernel
theorem d_Mo_branches_121 : decode b_Mo_branches 121 = .ok (.isub, 1) := by decide +kernel
theorem d_Mo_branches_122 : decode b_Mo_branches 122 = .ok (.putfield 139, 3) := by decide +kernel
theorem d_Mo_branches_125 : decode b_Mo_branches 125 = .ok (.goto 71, 3) := by decide +kernel
theorem d_Mo_branches_128 : decode b_Mo_branches 128 = .ok (.iload_n 1, 1) := by decide +kernel
theorem d_Mo_branches_129 : decode b_Mo_branches 129 = .ok (.bipush 11, 2) := by decide +kernel
theorem d_Mo_branches_131 : decode b_Mo_branches 131 = .ok (.if_icmp .ne 35, 3) := by decide +kernel
theorem d_Mo_branches_134 : decode b_Mo_branches 134 = .ok (.aload_n 0, 1) := by decide +kernel
theorem d_Mo_branches_135 : decode b_Mo_branches 135 = .ok (.bipush 13, 2) := by decide +kernel
theorem d_Mo_branches_137 : decode b_Mo_branches 137 = .ok (.invokevirtual 149, 3) := by decide +kernel
theorem d_Mo_branches_140 : decode b_Mo_branches 140 = .ok (.aload_n 0, 1) := by decide +kernel
theorem d_Mo_branches_141 : decode b_Mo_branches 141 = .ok (.bipush 12, 2) := by decide +kernel
theorem d_Mo_branches_143 : decode b_Mo_branches 143 = .ok (.iload_n 2, 1) := by decide +kernel
theorem d_Mo_branches_144 : decode b_Mo_branches 144 = .ok (.aload_n 0, 1) := by decide +kernel
theorem d_Mo_branches_145 : decode b_Mo_branches 145 = .ok (.bipush 8, 2) := by decide +kernel
theorem d_Mo_branches_147 : decode b_Mo_branches 147 = .ok (.iconst 0, 1) := by decide +kernel
theorem d_Mo_branches_148 : decode b_Mo_branches 148 = .ok (.iconst 0, 1) := by decide +kernel
theorem d_Mo_branches_149 : decode b_Mo_branches 149 = .ok (.invokevirtual 152, 3) := by decide +kernel
theorem d_Mo_branches_152 : decode b_Mo_branches 152 = .ok (.invokevirtual 162, 3) := by decide +kernel
theorem d_Mo_branches_155 : decode b_Mo_branches 155 = .ok (.aload_n 0, 1) := by decide +kernel
theorem d_Mo_branches_156 : decode b_Mo_branches 156 = .ok (.bipush 6, 2) := by decide +kernel
theorem d_Mo_branches_158 : decode b_Mo_branches 158 = .ok (.iconst 0, 1) := by decide +kernel
theorem d_Mo_branches_159 : decode b_Mo_branches 159 = .ok (.iconst 0, 1) := by decide +kernel
theorem d_Mo_branches_160 : decode b_Mo_branches 160 = .ok (.invokevirtual 162, 3) := by decide +kernel
theorem d_Mo_branches_163 : decode b_Mo_branches 163 = .ok (.goto 33, 3) := by decide +kernel
theorem d_Mo_branches_166 : decode b_Mo_branches 166 = .ok (.aload_n 0, 1) := by decide +kernel
theorem d_Mo_branches_167 : decode b_Mo_branches 167 = .ok (.bipush 7, 2) := by decide +kernel
theorem d_Mo_branches_169 : decode b_Mo_branches 169 = .ok (.iconst 0, 1) := by decide +kernel
theorem d_Mo_branches_170 : decode b_Mo_branches 170 = .ok (.iload_n 2, 1) := by decide +kernel
theorem d_Mo_branches_171 : decode b_Mo_branches 171 = .ok (.invokevirtual 152, 3) := by decide +kernel
theorem d_Mo_branches_174 : decode b_Mo_branches 174 = .ok (.istore 4, 2) := by decide +kernel
theorem d_Mo_branches_176 : decode b_Mo_branches 176 = .ok (.aload_n 0, 1) := by decide +kernel
theorem d_Mo_branches_177 : decode b_Mo_branches 177 = .ok (.getfield 51, 3) := by decide +kernel
theorem d_Mo_branches_180 : decode b_Mo_branches 180 = .ok (.iload_n 3, 1) := by decide +kernel
theorem d_Mo_branches_181 : decode b_Mo_branches 181 = .ok (.aload_n 0, 1) := by decide +kernel
theorem d_Mo_branches_182 : decode b_Mo_branches 182 = .ok (.getfield 133, 3) := by decide +kernel
theorem d_Mo_branches_185 : decode b_Mo_branches 185 = .ok (.iastore, 1) := by decide +kernel
theorem d_Mo_branches_186 : decode b_Mo_branches 186 = .ok (.aload_n 0, 1) := by decide +kernel
theorem d_Mo_branches_187 : decode b_Mo_branches 187 = .ok (.dup, 1) := by decide +kernel
theorem d_Mo_branches_188 : decode b_Mo_branches 188 = .ok (.getfield 139, 3) := by decide +kernel
theorem d_Mo_branches_191 : decode b_Mo_branches 191 = .ok (.iconst 1, 1) := by decide +kernel
theorem d_Mo_branches_192 : decode b_Mo_branches 192 = .ok (.isub, 1) := by decide +kernel
theorem d_Mo_branches_193 : decode b_Mo_branches 193 = .ok (.putfield 139, 3) := by decide +kernel
theorem d_Mo_branches_196 : decode b_Mo_branches 196 = .ok (.return_, 1) := by decide +kernel

def k_branches_105 (x : nM) (v2 : Int32) : nM := (nm_f (nm_a x 28 v2 (x.1 25)) 24 ((x.1 24) - 1))
def p_branches_105 (x : nM) (v2 : Int32) : Prop := vp_in v2 400 ∧ True
def k_branches_93 (x : nM) (v1 : Int32) (v2 : Int32) (v3 : Int32) : nM := (if v1 = 9 then k_branches_105 x v2 else (if v1 = 10 then k_branches_105 x v2 else (if v1 = 11 then (m_push (m_push ((m_emit (m_expect x 13) 8 0 0).1) 12 v2 ((m_emit (m_expect x 13) 8 0 0).2)) 6 0 0) else (nm_f (nm_a ((m_emit x 7 0 v2).1) 28 v3 (((m_emit x 7 0 v2).1).1 25)) 24 ((((m_emit x 7 0 v2).1).1 24) - 1)))))
def p_branches_93 (x : nM) (v1 : Int32) (v2 : Int32) (v3 : Int32) : Prop := ((v1 = 9 → p_branches_105 x v2) ∧ (¬ (v1 = 9) → ((v1 = 10 → p_branches_105 x v2) ∧ (¬ (v1 = 10) → ((v1 = 11 → o_expect x 13 ∧ o_emit (m_expect x 13) 8 0 0 ∧ o_push ((m_emit (m_expect x 13) 8 0 0).1) 12 v2 ((m_emit (m_expect x 13) 8 0 0).2) ∧ o_push (m_push ((m_emit (m_expect x 13) 8 0 0).1) 12 v2 ((m_emit (m_expect x 13) 8 0 0).2)) 6 0 0 ∧ True) ∧ (¬ (v1 = 11) → o_emit x 7 0 v2 ∧ vp_in v3 400 ∧ True))))))
def m_branches (x : nM) (a1 : Int32) (a2 : Int32) (a3 : Int32) : nM := (if a1 = 8 then (m_push (m_push ((m_emit (m_expect x 10) 8 0 0).1) 9 ((m_emit (m_expect x 10) 8 0 0).2) 0) 6 0 0) else (if a1 = 9 then (if x.1 3 = 11 then (m_push (nm_a (m_push ((m_emit (m_goOn x) 7 0 0).1) 10 ((m_emit (m_goOn x) 7 0 0).2) 0) 28 a2 ((m_push ((m_emit (m_goOn x) 7 0 0).1) 10 ((m_emit (m_goOn x) 7 0 0).2) 0).1 25)) 6 0 0) else k_branches_93 x a1 a2 a3) else k_branches_93 x a1 a2 a3))
def o_branches (x : nM) (a1 : Int32) (a2 : Int32) (a3 : Int32) : Prop := ((a1 = 8 → o_expect x 10 ∧ o_emit (m_expect x 10) 8 0 0 ∧ o_push ((m_emit (m_expect x 10) 8 0 0).1) 9 ((m_emit (m_expect x 10) 8 0 0).2) 0 ∧ o_push (m_push ((m_emit (m_expect x 10) 8 0 0).1) 9 ((m_emit (m_expect x 10) 8 0 0).2) 0) 6 0 0 ∧ True) ∧ (¬ (a1 = 8) → ((a1 = 9 → ((x.1 3 = 11 → o_goOn x ∧ o_emit (m_goOn x) 7 0 0 ∧ o_push ((m_emit (m_goOn x) 7 0 0).1) 10 ((m_emit (m_goOn x) 7 0 0).2) 0 ∧ vp_in a2 400 ∧ o_push (nm_a (m_push ((m_emit (m_goOn x) 7 0 0).1) 10 ((m_emit (m_goOn x) 7 0 0).2) 0) 28 a2 ((m_push ((m_emit (m_goOn x) 7 0 0).1) 10 ((m_emit (m_goOn x) 7 0 0).2) 0).1 25)) 6 0 0 ∧ True) ∧ (¬ (x.1 3 = 11) → p_branches_93 x a1 a2 a3))) ∧ (¬ (a1 = 9) → p_branches_93 x a1 a2 a3))))
set_option maxHeartbeats 4000000 in
set_option maxRecDepth 100000 in
theorem t_branches (l : Launch) (G : nn_G) (sz : Nat) (mo : Nat) (ad : Nat → Nat) (x : nM) (a1 : Int32) (a2 : Int32) (a3 : Int32) (hk : o_branches x a1 a2 a3) : Met l y_Mo_branches w_Mo_branches ({ frames := 4, cells := 0, slots := 0, locals := 85 }) (nn_P G [.ref mo, .int a1, .int a2, .int a3] (nm_W G mo ad x) sz) (nm_Qv G mo ad (m_branches x a1 a2 a3) (va_A (nm_W G mo ad x) sz)) 0 0 (va_A (nm_W G mo ad x) sz) := by
  refine Met.ofW (cc := b_Mo_branches) (maxL := 5) (ret := none) (by decide) rfl ?_
  intro p e s m args below meth c s₁ B hml hv
  obtain ⟨rfl, hsz, hP, hK, hD0, hN⟩ := hv
  have hx := B.exec
  have hb := B.bytes
  have hr := B.returns
  have hts := atoms_spec (ws := w_Mo_branches) B.pre
  have hg : ∀ w ∈ nn_gw, w.before _ s = true := fun w h => hts w (List.mem_cons_of_mem _ h)
  have hown : s.vm.findClass R_Mo = some m.cls := findClass_of_methodNamed B.named
  subst hsz
  have hD := hD0.self (sz := s.heap.size)
  generalize hAe : va_A (nm_W G mo ad x) s.heap.size = A at hD ⊢
  have hA : ∀ q : Nat, s.heap.size ≤ q → A q := fun q h => by rw [← hAe]; exact Or.inr h
  clear hAe
  have hS : va_S A s.heap s.heap [] := va_S.rf
  have hP : va_P G.1 nn_cls (nm_W G mo ad x) s.heap := hP
  have hl := lv_entry ([.ref mo, .int a1, .int a2, .int a3]) (n := 5) (Nat.le_of_ble_eq_true rfl)
  rw [lg_entry_eq]
  generalize (lg_sl ([.ref mo, .int a1, .int a2, .int a3]) ++ List.replicate (5 - (lg_sl ([.ref mo, .int a1, .int a2, .int a3])).length) Slot.unset).toArray = ls at hl ⊢
  have hl : lv_has ls 5 [(0, .ref mo), (1, .int a1), (2, .int a2), (3, .int a3)] := hl
  have J105 : ∀ (x : nM) (v2 : Int32) (ls : Array Slot) (H : Heap) (locs : List Loc), p_branches_105 x v2 → lv_has ls 5 [(0, .ref mo), (2, .int v2)] → va_P G.1 nn_cls (nm_W G mo ad x) H → va_D A (nm_W G mo ad x) → va_S A s.heap H locs → W p l e (headSpec w_Mo_branches ({ frames := 4, cells := 0, slots := 0, locals := 85 })).room s m [.ref mo, .int a1, .int a2, .int a3].toArray below meth c H locs 0 0 (MQ below (nm_Qv G mo ad (k_branches_105 x v2) A) [.ref mo, .int a1, .int a2, .int a3].toArray s 0 0 A) (F0 m 105 ls []) := by
    intro x v2 ls H locs hk hl hP hD hS
    unfold p_branches_105 at hk
    refine lv_aload_n hx hb d_Mo_branches_105 rfl (lv_at hl 0 rfl) ?_
    refine nm_getA hx hb hg hown hK hP 28 (by decide) (by decide) (hg _ mw_918) d_Mo_branches_106 ?_
    refine lv_iload_n hx hb d_Mo_branches_109 rfl (lv_at hl 1 rfl) ?_
    refine lv_aload_n hx hb d_Mo_branches_110 rfl (lv_at hl 0 rfl) ?_
    refine nm_get hx hb hg hown hK hP 25 (by decide) (by decide) (hg _ mw_915) d_Mo_branches_111 ?_
    obtain ⟨hi, hk⟩ := hk
    refine nm_st hx hb hK hP hD hS 28 11 rfl (by decide) hi d_Mo_branches_114 (fun H locs hP hD hS => ?_)
    refine lv_aload_n hx hb d_Mo_branches_115 rfl (lv_at hl 0 rfl) ?_
    refine lv_dup hx hb d_Mo_branches_116 rfl ?_
    refine nm_get hx hb hg hown hK hP 24 (by decide) (by decide) (hg _ mw_914) d_Mo_branches_117 ?_
    refine nb_top (x.1 24) rfl ?_
    refine lv_iconst (v := 1) hx hb d_Mo_branches_120 (by decide) ?_
    refine lv_isub hx hb d_Mo_branches_121 ?_
    refine nm_put hx hb hg hown hK hP hD hS 24 (by decide) (by decide) (by decide) (hg _ mw_914) d_Mo_branches_122 (fun H locs hP hD hS => ?_)
    refine lv_goto (tgt := 196) hx hb d_Mo_branches_125 rfl ?_
    have hR : k_branches_105 x v2 = nm_f (nm_a x 28 v2 (x.1 25)) 24 ((x.1 24) - 1) := by rw [k_branches_105]
    refine nm_W1 hR ?_
    exact W.vret hx hb hr (fun t ht hW => ⟨⟨(), rfl, trivial, ⟨by rw [ht]; exact hP, hD⟩⟩, hS.F ht⟩) hS.2.2 d_Mo_branches_196
  have J93 : ∀ (x : nM) (v1 : Int32) (v2 : Int32) (v3 : Int32) (ls : Array Slot) (H : Heap) (locs : List Loc), p_branches_93 x v1 v2 v3 → lv_has ls 5 [(0, .ref mo), (1, .int v1), (2, .int v2), (3, .int v3)] → va_P G.1 nn_cls (nm_W G mo ad x) H → va_D A (nm_W G mo ad x) → va_S A s.heap H locs → W p l e (headSpec w_Mo_branches ({ frames := 4, cells := 0, slots := 0, locals := 85 })).room s m [.ref mo, .int a1, .int a2, .int a3].toArray below meth c H locs 0 0 (MQ below (nm_Qv G mo ad (k_branches_93 x v1 v2 v3) A) [.ref mo, .int a1, .int a2, .int a3].toArray s 0 0 A) (F0 m 93 ls []) := by
    intro x v1 v2 v3 ls H locs hk hl hP hD hS
    unfold p_branches_93 at hk
    refine lv_iload_n hx hb d_Mo_branches_93 rfl (lv_at hl 1 rfl) ?_
    refine lv_bipush (v := 9) hx hb d_Mo_branches_94 (by decide) ?_
    refine lv_icmp_eq (tgt := 105) hx hb d_Mo_branches_96 rfl (fun hc96 => ?_) (fun hc96 => ?_)
    · skip
      have hk := hk.1 hc96
      have hl := lv_sub (l' := [(0, .ref mo), (2, .int v2)]) hl [0, 2] rfl
      have hR : k_branches_93 x v1 v2 v3 = k_branches_105 x v2 := by rw [k_branches_93]; rw [if_pos hc96]
      exact nm_W1 hR (J105 x v2 ls _ _ hk hl hP hD hS)
    · skip
      have hk := hk.2 hc96
      refine lv_iload_n hx hb d_Mo_branches_99 rfl (lv_at hl 1 rfl) ?_
      refine lv_bipush (v := 10) hx hb d_Mo_branches_100 (by decide) ?_
      refine lv_icmp_ne (tgt := 128) hx hb d_Mo_branches_102 rfl (fun hc102 => ?_) (fun hc102 => ?_)
      · skip
        have hk := hk.2 hc102
        refine lv_iload_n hx hb d_Mo_branches_128 rfl (lv_at hl 1 rfl) ?_
        refine lv_bipush (v := 11) hx hb d_Mo_branches_129 (by decide) ?_
        refine lv_icmp_ne (tgt := 166) hx hb d_Mo_branches_131 rfl (fun hc131 => ?_) (fun hc131 => ?_)
        · skip
          have hk := hk.2 hc131
          refine lv_aload_n hx hb d_Mo_branches_166 rfl (lv_at hl 0 rfl) ?_
          refine lv_bipush (v := 7) hx hb d_Mo_branches_167 (by decide) ?_
          refine lv_iconst (v := 0) hx hb d_Mo_branches_169 (by decide) ?_
          refine lv_iload_n hx hb d_Mo_branches_170 rfl (lv_at hl 2 rfl) ?_
          obtain ⟨hi, hk⟩ := hk
          have hFc := nm_free hD hS hA
          refine va_calli (va_runV (As := [.int 7, .int 0, .int v2]) (rest := []) ⟨hx, hb, hml, hown, hts⟩ (t_emit l G _ mo ad x 7 0 v2 hi) (cwV 3 hts (nn_gV mw_1060 mw_1057 mw_1059 mw_51 mw_94) rfl rfl rfl (by decide +kernel) ⟨Nat.le_of_ble_eq_true rfl, Nat.le_of_ble_eq_true rfl⟩) (nn_preV (va_recv hK hP rfl (q0 := 0) rfl) hP hD hK hN) rfl rfl hl.1 rfl (lv_room (Nat.le_of_ble_eq_true rfl)) d_Mo_branches_171 ⟨Nat.le_of_ble_eq_true rfl, Nat.le_of_ble_eq_true rfl⟩) hS (fun q _ h => hFc q h) hFc (fun r1 u t H locs ht hvm hw hB hz1 hk1 hS => ?_)
          subst hw
          obtain ⟨hP1, hD1⟩ := hB
          rw [ht] at hP1
          have hP := hP1
          have hD := hD1.weaken (fun _ _ _ h => hFc _ h)
          refine lv_istore (lv' := [(4, .int ((m_emit x 7 0 v2).2)), (0, .ref mo), (1, .int v1), (2, .int v2), (3, .int v3)]) hx hb d_Mo_branches_174 hl (by decide) rfl (fun ls hl => ?_)
          refine lv_aload_n hx hb d_Mo_branches_176 rfl (lv_at hl 1 rfl) ?_
          refine nm_getA hx hb hg hown hK hP 28 (by decide) (by decide) (hg _ mw_918) d_Mo_branches_177 ?_
          refine lv_iload_n hx hb d_Mo_branches_180 rfl (lv_at hl 4 rfl) ?_
          refine lv_aload_n hx hb d_Mo_branches_181 rfl (lv_at hl 1 rfl) ?_
          refine nm_get hx hb hg hown hK hP 25 (by decide) (by decide) (hg _ mw_915) d_Mo_branches_182 ?_
          obtain ⟨hi, hk⟩ := hk
          refine nm_st hx hb hK hP hD hS 28 11 rfl (by decide) hi d_Mo_branches_185 (fun H locs hP hD hS => ?_)
          refine lv_aload_n hx hb d_Mo_branches_186 rfl (lv_at hl 1 rfl) ?_
          refine lv_dup hx hb d_Mo_branches_187 rfl ?_
          refine nm_get hx hb hg hown hK hP 24 (by decide) (by decide) (hg _ mw_914) d_Mo_branches_188 ?_
          refine nb_top (((m_emit x 7 0 v2).1).1 24) rfl ?_
          refine lv_iconst (v := 1) hx hb d_Mo_branches_191 (by decide) ?_
          refine lv_isub hx hb d_Mo_branches_192 ?_
          refine nm_put hx hb hg hown hK hP hD hS 24 (by decide) (by decide) (by decide) (hg _ mw_914) d_Mo_branches_193 (fun H locs hP hD hS => ?_)
          have hR : k_branches_93 x v1 v2 v3 = nm_f (nm_a ((m_emit x 7 0 v2).1) 28 v3 (((m_emit x 7 0 v2).1).1 25)) 24 ((((m_emit x 7 0 v2).1).1 24) - 1) := by rw [k_branches_93]; rw [if_neg hc96]; rw [if_neg hc102]; rw [if_neg hc131]
          refine nm_W1 hR ?_
          exact W.vret hx hb hr (fun t ht hW => ⟨⟨(), rfl, trivial, ⟨by rw [ht]; exact hP, hD⟩⟩, hS.F ht⟩) hS.2.2 d_Mo_branches_196
        · skip
          have hk := hk.1 hc131
          refine lv_aload_n hx hb d_Mo_branches_134 rfl (lv_at hl 0 rfl) ?_
          refine lv_bipush (v := 13) hx hb d_Mo_branches_135 (by decide) ?_
          obtain ⟨hi, hk⟩ := hk
          have hFc := nm_free hD hS hA
          refine va_callv (va_runV (As := [.int 13]) (rest := []) ⟨hx, hb, hml, hown, hts⟩ (t_expect l G _ mo ad x 13 hi) (cwV 1 hts (nn_gV mw_1084 mw_1081 mw_1083 mw_57 mw_94) rfl rfl rfl (by decide +kernel) ⟨Nat.le_of_ble_eq_true rfl, Nat.le_of_ble_eq_true rfl⟩) (nn_preV (va_recv hK hP rfl (q0 := 0) rfl) hP hD hK hN) rfl rfl hl.1 rfl (lv_room (Nat.le_of_ble_eq_true rfl)) d_Mo_branches_137 ⟨Nat.le_of_ble_eq_true rfl, Nat.le_of_ble_eq_true rfl⟩) hS (fun q _ h => hFc q h) hFc (fun u t H locs ht hvm hw hB hz1 hk1 hS => ?_)
          obtain ⟨hP1, hD1⟩ := hB
          rw [ht] at hP1
          have hP := hP1
          have hD := hD1.weaken (fun _ _ _ h => hFc _ h)
          refine lv_aload_n hx hb d_Mo_branches_140 rfl (lv_at hl 0 rfl) ?_
          refine lv_bipush (v := 12) hx hb d_Mo_branches_141 (by decide) ?_
          refine lv_iload_n hx hb d_Mo_branches_143 rfl (lv_at hl 2 rfl) ?_
          refine lv_aload_n hx hb d_Mo_branches_144 rfl (lv_at hl 0 rfl) ?_
          refine lv_bipush (v := 8) hx hb d_Mo_branches_145 (by decide) ?_
          refine lv_iconst (v := 0) hx hb d_Mo_branches_147 (by decide) ?_
          refine lv_iconst (v := 0) hx hb d_Mo_branches_148 (by decide) ?_
          obtain ⟨hi, hk⟩ := hk
          have hFc := nm_free hD hS hA
          refine va_calli (va_runV (As := [.int 8, .int 0, .int 0]) (rest := [.int v2, .int 12, .ref mo]) ⟨hx, hb, hml, hown, hts⟩ (t_emit l G _ mo ad (m_expect x 13) 8 0 0 hi) (cwV 3 hts (nn_gV mw_1060 mw_1057 mw_1059 mw_51 mw_94) rfl rfl rfl (by decide +kernel) ⟨Nat.le_of_ble_eq_true rfl, Nat.le_of_ble_eq_true rfl⟩) (nn_preV (va_recv hK hP rfl (q0 := 0) rfl) hP hD hK hN) rfl rfl hl.1 rfl (lv_room (Nat.le_of_ble_eq_true rfl)) d_Mo_branches_149 ⟨Nat.le_of_ble_eq_true rfl, Nat.le_of_ble_eq_true rfl⟩) hS (fun q _ h => hFc q h) hFc (fun r3 u t H locs ht hvm hw hB hz1 hk1 hS => ?_)
          subst hw
          obtain ⟨hP1, hD1⟩ := hB
          rw [ht] at hP1
          have hP := hP1
          have hD := hD1.weaken (fun _ _ _ h => hFc _ h)
          obtain ⟨hi, hk⟩ := hk
          have hFc := nm_free hD hS hA
          refine va_callv (va_runV (As := [.int 12, .int v2, .int ((m_emit (m_expect x 13) 8 0 0).2)]) (rest := []) ⟨hx, hb, hml, hown, hts⟩ (t_push l G _ mo ad ((m_emit (m_expect x 13) 8 0 0).1) 12 v2 ((m_emit (m_expect x 13) 8 0 0).2) hi) (cwV 3 hts (nn_gV mw_1028 mw_1025 mw_1027 mw_46 mw_94) rfl rfl rfl (by decide +kernel) ⟨Nat.le_of_ble_eq_true rfl, Nat.le_of_ble_eq_true rfl⟩) (nn_preV (va_recv hK hP rfl (q0 := 0) rfl) hP hD hK hN) rfl rfl hl.1 rfl (lv_room (Nat.le_of_ble_eq_true rfl)) d_Mo_branches_152 ⟨Nat.le_of_ble_eq_true rfl, Nat.le_of_ble_eq_true rfl⟩) hS (fun q _ h => hFc q h) hFc (fun u t H locs ht hvm hw hB hz1 hk1 hS => ?_)
          obtain ⟨hP1, hD1⟩ := hB
          rw [ht] at hP1
          have hP := hP1
          have hD := hD1.weaken (fun _ _ _ h => hFc _ h)
          refine lv_aload_n hx hb d_Mo_branches_155 rfl (lv_at hl 0 rfl) ?_
          refine lv_bipush (v := 6) hx hb d_Mo_branches_156 (by decide) ?_
          refine lv_iconst (v := 0) hx hb d_Mo_branches_158 (by decide) ?_
          refine lv_iconst (v := 0) hx hb d_Mo_branches_159 (by decide) ?_
          obtain ⟨hi, hk⟩ := hk
          have hFc := nm_free hD hS hA
          refine va_callv (va_runV (As := [.int 6, .int 0, .int 0]) (rest := []) ⟨hx, hb, hml, hown, hts⟩ (t_push l G _ mo ad (m_push ((m_emit (m_expect x 13) 8 0 0).1) 12 v2 ((m_emit (m_expect x 13) 8 0 0).2)) 6 0 0 hi) (cwV 3 hts (nn_gV mw_1028 mw_1025 mw_1027 mw_46 mw_94) rfl rfl rfl (by decide +kernel) ⟨Nat.le_of_ble_eq_true rfl, Nat.le_of_ble_eq_true rfl⟩) (nn_preV (va_recv hK hP rfl (q0 := 0) rfl) hP hD hK hN) rfl rfl hl.1 rfl (lv_room (Nat.le_of_ble_eq_true rfl)) d_Mo_branches_160 ⟨Nat.le_of_ble_eq_true rfl, Nat.le_of_ble_eq_true rfl⟩) hS (fun q _ h => hFc q h) hFc (fun u t H locs ht hvm hw hB hz1 hk1 hS => ?_)
          obtain ⟨hP1, hD1⟩ := hB
          rw [ht] at hP1
          have hP := hP1
          have hD := hD1.weaken (fun _ _ _ h => hFc _ h)
          refine lv_goto (tgt := 196) hx hb d_Mo_branches_163 rfl ?_
          have hR : k_branches_93 x v1 v2 v3 = m_push (m_push ((m_emit (m_expect x 13) 8 0 0).1) 12 v2 ((m_emit (m_expect x 13) 8 0 0).2)) 6 0 0 := by rw [k_branches_93]; rw [if_neg hc96]; rw [if_neg hc102]; rw [if_pos hc131]
          refine nm_W1 hR ?_
          exact W.vret hx hb hr (fun t ht hW => ⟨⟨(), rfl, trivial, ⟨by rw [ht]; exact hP, hD⟩⟩, hS.F ht⟩) hS.2.2 d_Mo_branches_196
      · skip
        have hk := hk.1 hc102
        have hl := lv_sub (l' := [(0, .ref mo), (2, .int v2)]) hl [0, 2] rfl
        have hR : k_branches_93 x v1 v2 v3 = k_branches_105 x v2 := by rw [k_branches_93]; rw [if_neg hc96]; rw [if_pos hc102]
        exact nm_W1 hR (J105 x v2 ls _ _ hk hl hP hD hS)
  unfold o_branches at hk
  refine lv_iload_n hx hb d_Mo_branches_0 rfl (lv_at hl 1 rfl) ?_
  refine lv_bipush (v := 8) hx hb d_Mo_branches_1 (by decide) ?_
  refine lv_icmp_ne (tgt := 38) hx hb d_Mo_branches_3 rfl (fun hc3 => ?_) (fun hc3 => ?_)
  · skip
    have hk := hk.2 hc3
    refine lv_iload_n hx hb d_Mo_branches_38 rfl (lv_at hl 1 rfl) ?_
    refine lv_bipush (v := 9) hx hb d_Mo_branches_39 (by decide) ?_
    refine lv_icmp_ne (tgt := 93) hx hb d_Mo_branches_41 rfl (fun hc41 => ?_) (fun hc41 => ?_)
    · skip
      have hk := hk.2 hc41
      have hl := lv_sub (l' := [(0, .ref mo), (1, .int a1), (2, .int a2), (3, .int a3)]) hl [0, 1, 2, 3] rfl
      have hR : m_branches x a1 a2 a3 = k_branches_93 x a1 a2 a3 := by rw [m_branches]; rw [if_neg hc3]; rw [if_neg hc41]
      exact nm_W1 hR (J93 x a1 a2 a3 ls _ _ hk hl hP hD hS)
    · skip
      have hk := hk.1 hc41
      refine lv_aload_n hx hb d_Mo_branches_44 rfl (lv_at hl 0 rfl) ?_
      refine nm_get hx hb hg hown hK hP 3 (by decide) (by decide) (hg _ mw_893) d_Mo_branches_45 ?_
      refine lv_bipush (v := 11) hx hb d_Mo_branches_48 (by decide) ?_
      refine lv_icmp_ne (tgt := 93) hx hb d_Mo_branches_50 rfl (fun hc50 => ?_) (fun hc50 => ?_)
      · skip
        have hk := hk.2 hc50
        have hl := lv_sub (l' := [(0, .ref mo), (1, .int a1), (2, .int a2), (3, .int a3)]) hl [0, 1, 2, 3] rfl
        have hR : m_branches x a1 a2 a3 = k_branches_93 x a1 a2 a3 := by rw [m_branches]; rw [if_neg hc3]; rw [if_pos hc41]; rw [if_neg hc50]
        exact nm_W1 hR (J93 x a1 a2 a3 ls _ _ hk hl hP hD hS)
      · skip
        have hk := hk.1 hc50
        refine lv_aload_n hx hb d_Mo_branches_53 rfl (lv_at hl 0 rfl) ?_
        obtain ⟨hi, hk⟩ := hk
        have hFc := nm_free hD hS hA
        refine va_callv (va_runV (As := []) (rest := []) ⟨hx, hb, hml, hown, hts⟩ (t_goOn l G _ mo ad x hi) (cwV 0 hts (nn_gV mw_1068 mw_1065 mw_1067 mw_53 mw_94) rfl rfl rfl (by decide +kernel) ⟨Nat.le_of_ble_eq_true rfl, Nat.le_of_ble_eq_true rfl⟩) (nn_preV (va_recv hK hP rfl (q0 := 0) rfl) hP hD hK hN) rfl rfl hl.1 rfl (lv_room (Nat.le_of_ble_eq_true rfl)) d_Mo_branches_54 ⟨Nat.le_of_ble_eq_true rfl, Nat.le_of_ble_eq_true rfl⟩) hS (fun q _ h => hFc q h) hFc (fun u t H locs ht hvm hw hB hz1 hk1 hS => ?_)
        obtain ⟨hP1, hD1⟩ := hB
        rw [ht] at hP1
        have hP := hP1
        have hD := hD1.weaken (fun _ _ _ h => hFc _ h)
        refine lv_aload_n hx hb d_Mo_branches_57 rfl (lv_at hl 0 rfl) ?_
        refine lv_bipush (v := 10) hx hb d_Mo_branches_58 (by decide) ?_
        refine lv_aload_n hx hb d_Mo_branches_60 rfl (lv_at hl 0 rfl) ?_
        refine lv_bipush (v := 7) hx hb d_Mo_branches_61 (by decide) ?_
        refine lv_iconst (v := 0) hx hb d_Mo_branches_63 (by decide) ?_
        refine lv_iconst (v := 0) hx hb d_Mo_branches_64 (by decide) ?_
        obtain ⟨hi, hk⟩ := hk
        have hFc := nm_free hD hS hA
        refine va_calli (va_runV (As := [.int 7, .int 0, .int 0]) (rest := [.int 10, .ref mo]) ⟨hx, hb, hml, hown, hts⟩ (t_emit l G _ mo ad (m_goOn x) 7 0 0 hi) (cwV 3 hts (nn_gV mw_1060 mw_1057 mw_1059 mw_51 mw_94) rfl rfl rfl (by decide +kernel) ⟨Nat.le_of_ble_eq_true rfl, Nat.le_of_ble_eq_true rfl⟩) (nn_preV (va_recv hK hP rfl (q0 := 0) rfl) hP hD hK hN) rfl rfl hl.1 rfl (lv_room (Nat.le_of_ble_eq_true rfl)) d_Mo_branches_65 ⟨Nat.le_of_ble_eq_true rfl, Nat.le_of_ble_eq_true rfl⟩) hS (fun q _ h => hFc q h) hFc (fun r7 u t H locs ht hvm hw hB hz1 hk1 hS => ?_)
        subst hw
        obtain ⟨hP1, hD1⟩ := hB
        rw [ht] at hP1
        have hP := hP1
        have hD := hD1.weaken (fun _ _ _ h => hFc _ h)
        refine lv_iconst (v := 0) hx hb d_Mo_branches_68 (by decide) ?_
        obtain ⟨hi, hk⟩ := hk
        have hFc := nm_free hD hS hA
        refine va_callv (va_runV (As := [.int 10, .int ((m_emit (m_goOn x) 7 0 0).2), .int 0]) (rest := []) ⟨hx, hb, hml, hown, hts⟩ (t_push l G _ mo ad ((m_emit (m_goOn x) 7 0 0).1) 10 ((m_emit (m_goOn x) 7 0 0).2) 0 hi) (cwV 3 hts (nn_gV mw_1028 mw_1025 mw_1027 mw_46 mw_94) rfl rfl rfl (by decide +kernel) ⟨Nat.le_of_ble_eq_true rfl, Nat.le_of_ble_eq_true rfl⟩) (nn_preV (va_recv hK hP rfl (q0 := 0) rfl) hP hD hK hN) rfl rfl hl.1 rfl (lv_room (Nat.le_of_ble_eq_true rfl)) d_Mo_branches_69 ⟨Nat.le_of_ble_eq_true rfl, Nat.le_of_ble_eq_true rfl⟩) hS (fun q _ h => hFc q h) hFc (fun u t H locs ht hvm hw hB hz1 hk1 hS => ?_)
        obtain ⟨hP1, hD1⟩ := hB
        rw [ht] at hP1
        have hP := hP1
        have hD := hD1.weaken (fun _ _ _ h => hFc _ h)
        refine lv_aload_n hx hb d_Mo_branches_72 rfl (lv_at hl 0 rfl) ?_
        refine nm_getA hx hb hg hown hK hP 28 (by decide) (by decide) (hg _ mw_918) d_Mo_branches_73 ?_
        refine lv_iload_n hx hb d_Mo_branches_76 rfl (lv_at hl 2 rfl) ?_
        refine lv_aload_n hx hb d_Mo_branches_77 rfl (lv_at hl 0 rfl) ?_
        refine nm_get hx hb hg hown hK hP 25 (by decide) (by decide) (hg _ mw_915) d_Mo_branches_78 ?_
        obtain ⟨hi, hk⟩ := hk
        refine nm_st hx hb hK hP hD hS 28 11 rfl (by decide) hi d_Mo_branches_81 (fun H locs hP hD hS => ?_)
        refine lv_aload_n hx hb d_Mo_branches_82 rfl (lv_at hl 0 rfl) ?_
        refine lv_bipush (v := 6) hx hb d_Mo_branches_83 (by decide) ?_
        refine lv_iconst (v := 0) hx hb d_Mo_branches_85 (by decide) ?_
        refine lv_iconst (v := 0) hx hb d_Mo_branches_86 (by decide) ?_
        obtain ⟨hi, hk⟩ := hk
        have hFc := nm_free hD hS hA
        refine va_callv (va_runV (As := [.int 6, .int 0, .int 0]) (rest := []) ⟨hx, hb, hml, hown, hts⟩ (t_push l G _ mo ad (nm_a (m_push ((m_emit (m_goOn x) 7 0 0).1) 10 ((m_emit (m_goOn x) 7 0 0).2) 0) 28 a2 ((m_push ((m_emit (m_goOn x) 7 0 0).1) 10 ((m_emit (m_goOn x) 7 0 0).2) 0).1 25)) 6 0 0 hi) (cwV 3 hts (nn_gV mw_1028 mw_1025 mw_1027 mw_46 mw_94) rfl rfl rfl (by decide +kernel) ⟨Nat.le_of_ble_eq_true rfl, Nat.le_of_ble_eq_true rfl⟩) (nn_preV (va_recv hK hP rfl (q0 := 0) rfl) hP hD hK hN) rfl rfl hl.1 rfl (lv_room (Nat.le_of_ble_eq_true rfl)) d_Mo_branches_87 ⟨Nat.le_of_ble_eq_true rfl, Nat.le_of_ble_eq_true rfl⟩) hS (fun q _ h => hFc q h) hFc (fun u t H locs ht hvm hw hB hz1 hk1 hS => ?_)
        obtain ⟨hP1, hD1⟩ := hB
        rw [ht] at hP1
        have hP := hP1
        have hD := hD1.weaken (fun _ _ _ h => hFc _ h)
        refine lv_goto (tgt := 196) hx hb d_Mo_branches_90 rfl ?_
        have hR : m_branches x a1 a2 a3 = m_push (nm_a (m_push ((m_emit (m_goOn x) 7 0 0).1) 10 ((m_emit (m_goOn x) 7 0 0).2) 0) 28 a2 ((m_push ((m_emit (m_goOn x) 7 0 0).1) 10 ((m_emit (m_goOn x) 7 0 0).2) 0).1 25)) 6 0 0 := by rw [m_branches]; rw [if_neg hc3]; rw [if_pos hc41]; rw [if_pos hc50]
        refine nm_W1 hR ?_
        exact W.vret hx hb hr (fun t ht hW => ⟨⟨(), rfl, trivial, ⟨by rw [ht]; exact hP, hD⟩⟩, hS.F ht⟩) hS.2.2 d_Mo_branches_196
  · skip
    have hk := hk.1 hc3
    refine lv_aload_n hx hb d_Mo_branches_6 rfl (lv_at hl 0 rfl) ?_
    refine lv_bipush (v := 10) hx hb d_Mo_branches_7 (by decide) ?_
    obtain ⟨hi, hk⟩ := hk
    have hFc := nm_free hD hS hA
    refine va_callv (va_runV (As := [.int 10]) (rest := []) ⟨hx, hb, hml, hown, hts⟩ (t_expect l G _ mo ad x 10 hi) (cwV 1 hts (nn_gV mw_1084 mw_1081 mw_1083 mw_57 mw_94) rfl rfl rfl (by decide +kernel) ⟨Nat.le_of_ble_eq_true rfl, Nat.le_of_ble_eq_true rfl⟩) (nn_preV (va_recv hK hP rfl (q0 := 0) rfl) hP hD hK hN) rfl rfl hl.1 rfl (lv_room (Nat.le_of_ble_eq_true rfl)) d_Mo_branches_9 ⟨Nat.le_of_ble_eq_true rfl, Nat.le_of_ble_eq_true rfl⟩) hS (fun q _ h => hFc q h) hFc (fun u t H locs ht hvm hw hB hz1 hk1 hS => ?_)
    obtain ⟨hP1, hD1⟩ := hB
    rw [ht] at hP1
    have hP := hP1
    have hD := hD1.weaken (fun _ _ _ h => hFc _ h)
    refine lv_aload_n hx hb d_Mo_branches_12 rfl (lv_at hl 0 rfl) ?_
    refine lv_bipush (v := 9) hx hb d_Mo_branches_13 (by decide) ?_
    refine lv_aload_n hx hb d_Mo_branches_15 rfl (lv_at hl 0 rfl) ?_
    refine lv_bipush (v := 8) hx hb d_Mo_branches_16 (by decide) ?_
    refine lv_iconst (v := 0) hx hb d_Mo_branches_18 (by decide) ?_
    refine lv_iconst (v := 0) hx hb d_Mo_branches_19 (by decide) ?_
    obtain ⟨hi, hk⟩ := hk
    have hFc := nm_free hD hS hA
    refine va_calli (va_runV (As := [.int 8, .int 0, .int 0]) (rest := [.int 9, .ref mo]) ⟨hx, hb, hml, hown, hts⟩ (t_emit l G _ mo ad (m_expect x 10) 8 0 0 hi) (cwV 3 hts (nn_gV mw_1060 mw_1057 mw_1059 mw_51 mw_94) rfl rfl rfl (by decide +kernel) ⟨Nat.le_of_ble_eq_true rfl, Nat.le_of_ble_eq_true rfl⟩) (nn_preV (va_recv hK hP rfl (q0 := 0) rfl) hP hD hK hN) rfl rfl hl.1 rfl (lv_room (Nat.le_of_ble_eq_true rfl)) d_Mo_branches_20 ⟨Nat.le_of_ble_eq_true rfl, Nat.le_of_ble_eq_true rfl⟩) hS (fun q _ h => hFc q h) hFc (fun r11 u t H locs ht hvm hw hB hz1 hk1 hS => ?_)
    subst hw
    obtain ⟨hP1, hD1⟩ := hB
    rw [ht] at hP1
    have hP := hP1
    have hD := hD1.weaken (fun _ _ _ h => hFc _ h)
    refine lv_iconst (v := 0) hx hb d_Mo_branches_23 (by decide) ?_
    obtain ⟨hi, hk⟩ := hk
    have hFc := nm_free hD hS hA
    refine va_callv (va_runV (As := [.int 9, .int ((m_emit (m_expect x 10) 8 0 0).2), .int 0]) (rest := []) ⟨hx, hb, hml, hown, hts⟩ (t_push l G _ mo ad ((m_emit (m_expect x 10) 8 0 0).1) 9 ((m_emit (m_expect x 10) 8 0 0).2) 0 hi) (cwV 3 hts (nn_gV mw_1028 mw_1025 mw_1027 mw_46 mw_94) rfl rfl rfl (by decide +kernel) ⟨Nat.le_of_ble_eq_true rfl, Nat.le_of_ble_eq_true rfl⟩) (nn_preV (va_recv hK hP rfl (q0 := 0) rfl) hP hD hK hN) rfl rfl hl.1 rfl (lv_room (Nat.le_of_ble_eq_true rfl)) d_Mo_branches_24 ⟨Nat.le_of_ble_eq_true rfl, Nat.le_of_ble_eq_true rfl⟩) hS (fun q _ h => hFc q h) hFc (fun u t H locs ht hvm hw hB hz1 hk1 hS => ?_)
    obtain ⟨hP1, hD1⟩ := hB
    rw [ht] at hP1
    have hP := hP1
    have hD := hD1.weaken (fun _ _ _ h => hFc _ h)
    refine lv_aload_n hx hb d_Mo_branches_27 rfl (lv_at hl 0 rfl) ?_
    refine lv_bipush (v := 6) hx hb d_Mo_branches_28 (by decide) ?_
    refine lv_iconst (v := 0) hx hb d_Mo_branches_30 (by decide) ?_
    refine lv_iconst (v := 0) hx hb d_Mo_branches_31 (by decide) ?_
    obtain ⟨hi, hk⟩ := hk
    have hFc := nm_free hD hS hA
    refine va_callv (va_runV (As := [.int 6, .int 0, .int 0]) (rest := []) ⟨hx, hb, hml, hown, hts⟩ (t_push l G _ mo ad (m_push ((m_emit (m_expect x 10) 8 0 0).1) 9 ((m_emit (m_expect x 10) 8 0 0).2) 0) 6 0 0 hi) (cwV 3 hts (nn_gV mw_1028 mw_1025 mw_1027 mw_46 mw_94) rfl rfl rfl (by decide +kernel) ⟨Nat.le_of_ble_eq_true rfl, Nat.le_of_ble_eq_true rfl⟩) (nn_preV (va_recv hK hP rfl (q0 := 0) rfl) hP hD hK hN) rfl rfl hl.1 rfl (lv_room (Nat.le_of_ble_eq_true rfl)) d_Mo_branches_32 ⟨Nat.le_of_ble_eq_true rfl, Nat.le_of_ble_eq_true rfl⟩) hS (fun q _ h => hFc q h) hFc (fun u t H locs ht hvm hw hB hz1 hk1 hS => ?_)
    obtain ⟨hP1, hD1⟩ := hB
    rw [ht] at hP1
    have hP := hP1
    have hD := hD1.weaken (fun _ _ _ h => hFc _ h)
    refine lv_goto (tgt := 196) hx hb d_Mo_branches_35 rfl ?_
    have hR : m_branches x a1 a2 a3 = m_push (m_push ((m_emit (m_expect x 10) 8 0 0).1) 9 ((m_emit (m_expect x 10) 8 0 0).2) 0) 6 0 0 := by rw [m_branches]; rw [if_pos hc3]
    refine nm_W1 hR ?_
    exact W.vret hx hb hr (fun t ht hW => ⟨⟨(), rfl, trivial, ⟨by rw [ht]; exact hP, hD⟩⟩, hS.F ht⟩) hS.2.2 d_Mo_branches_196

theorem d_Mo_condition_0 : decode b_Mo_condition 0 = .ok (.aload_n 0, 1) := by decide +kernel
theorem d_Mo_condition_1 : decode b_Mo_condition 1 = .ok (.getfield 88, 3) := by decide +kernel
theorem d_Mo_condition_4 : decode b_Mo_condition 4 = .ok (.bipush 61, 2) := by decide +kernel
theorem d_Mo_condition_6 : decode b_Mo_condition 6 = .ok (.if_icmp .ne 8, 3) := by decide +kernel
theorem d_Mo_condition_9 : decode b_Mo_condition 9 = .ok (.bipush 6, 2) := by decide +kernel
theorem d_Mo_condition_11 : decode b_Mo_condition 11 = .ok (.goto 46, 3) := by decide +kernel
theorem d_Mo_condition_14 : decode b_Mo_condition 14 = .ok (.aload_n 0, 1) := by decide +kernel
theorem d_Mo_condition_15 : decode b_Mo_condition 15 = .ok (.getfield 88, 3) := by decide +kernel
theorem d_Mo_condition_18 : decode b_Mo_condition 18 = .ok (.bipush 35, 2) := by decide +kernel
theorem d_Mo_condition_20 : decode b_Mo_condition 20 = .ok (.if_icmp .ne 8, 3) := by decide +kernel
theorem d_Mo_condition_23 : decode b_Mo_condition 23 = .ok (.bipush 7, 2) := by decide +kernel
theorem d_Mo_condition_25 : decode b_Mo_condition 25 = .ok (.goto 32, 3) := by decide +kernel
theorem d_Mo_condition_28 : decode b_Mo_condition 28 = .ok (.aload_n 0, 1) := by decide +kernel
theorem d_Mo_condition_29 : decode b_Mo_condition 29 = .ok (.getfield 88, 3) := by decide +kernel
theorem d_Mo_condition_32 : decode b_Mo_condition 32 = .ok (.bipush 60, 2) := by decide +kernel
theorem d_Mo_condition_34 : decode b_Mo_condition 34 = .ok (.if_icmp .ne 8, 3) := by decide +kernel
theorem d_Mo_condition_37 : decode b_Mo_condition 37 = .ok (.bipush 8, 2) := by decide +kernel
theorem d_Mo_condition_39 : decode b_Mo_condition 39 = .ok (.goto 18, 3) := by decide +kernel
theorem d_Mo_condition_42 : decode b_Mo_condition 42 = .ok (.aload_n 0, 1) := by decide +kernel
theorem d_Mo_condition_43 : decode b_Mo_condition 43 = .ok (.getfield 88, 3) := by decide +kernel
theorem d_Mo_condition_46 : decode b_Mo_condition 46 = .ok (.bipush 62, 2) := by decide +kernel
theorem d_Mo_condition_48 : decode b_Mo_condition 48 = .ok (.if_icmp .ne 8, 3) := by decide +kernel
theorem d_Mo_condition_51 : decode b_Mo_condition 51 = .ok (.bipush 9, 2) := by decide +kernel
theorem d_Mo_condition_53 : decode b_Mo_condition 53 = .ok (.goto 4, 3) := by decide +kernel
theorem d_Mo_condition_56 : decode b_Mo_condition 56 = .ok (.iconst 0, 1) := by decide +kernel
theorem d_Mo_condition_57 : decode b_Mo_condition 57 = .ok (.istore_n 1, 1) := by decide +kernel
theorem d_Mo_condition_58 : decode b_Mo_condition 58 = .ok (.iload_n 1, 1) := by decide +kernel
theorem d_Mo_condition_59 : decode b_Mo_condition 59 = .ok (.ifCond .ne 12, 3) := by decide +kernel
theorem d_Mo_condition_62 : decode b_Mo_condition 62 = .ok (.aload_n 0, 1) := by decide +kernel
theorem d_Mo_condition_63 : decode b_Mo_condition 63 = .ok (.iconst 1, 1) := by decide +kernel
theorem d_Mo_condition_64 : decode b_Mo_condition 64 = .ok (.aload_n 0, 1) := by decide +kernel
theorem d_Mo_condition_65 : decode b_Mo_condition 65 = .ok (.getfield 78, 3) := by decide +kernel
theorem d_Mo_condition_68 : decode b_Mo_condition 68 = .ok (.invokevirtual 120, 3) := by decide +kernel
theorem d_Mo_condition_71 : decode b_Mo_condition 71 = .ok (.aload_n 0, 1) := by decide +kernel
theorem d_Mo_condition_72 : decode b_Mo_condition 72 = .ok (.invokevirtual 117, 3) := by decide +kernel
theorem d_Mo_condition_75 : decode b_Mo_condition 75 = .ok (.aload_n 0, 1) := by decide +kernel
theorem d_Mo_condition_76 : decode b_Mo_condition 76 = .ok (.bipush 23, 2) := by decide +kernel
theorem d_Mo_condition_78 : decode b_Mo_condition 78 = .ok (.sipush 144, 3) := by decide +kernel
theorem d_Mo_condition_81 : decode b_Mo_condition 81 = .ok (.iload_n 1, 1) := by decide +kernel
theorem d_Mo_condition_82 : decode b_Mo_condition 82 = .ok (.invokevirtual 162, 3) := by decide +kernel
theorem d_Mo_condition_85 : decode b_Mo_condition 85 = .ok (.aload_n 0, 1) := by decide +kernel
theorem d_Mo_condition_86 : decode b_Mo_condition 86 = .ok (.bipush 14, 2) := by decide +kernel
theorem d_Mo_condition_88 : decode b_Mo_condition 88 = .ok (.iconst 0, 1) := by decide +kernel
theorem d_Mo_condition_89 : decode b_Mo_condition 89 = .ok (.iconst 0, 1) := by decide +kernel
theorem d_Mo_condition_90 : decode b_Mo_condition 90 = .ok (.invokevirtual 162, 3) := by decide +kernel
theorem d_Mo_condition_93 : decode b_Mo_condition 93 = .ok (.return_, 1) := by decide +kernel

def k_condition_71 (x : nM) (v1 : Int32) : nM := (m_push (m_push (m_goOn x) 23 144 v1) 14 0 0)
def p_condition_71 (x : nM) (v1 : Int32) : Prop := o_goOn x ∧ o_push (m_goOn x) 23 144 v1 ∧ o_push (m_push (m_goOn x) 23 144 v1) 14 0 0 ∧ True
def k_condition_57 (x : nM) (w0 : Int32) : nM := (if w0 = 0 then k_condition_71 (m_fail x 1 (x.1 4)) w0 else k_condition_71 x w0)
def p_condition_57 (x : nM) (w0 : Int32) : Prop := ((w0 = 0 → p_condition_71 (m_fail x 1 (x.1 4)) w0) ∧ (¬ (w0 = 0) → p_condition_71 x w0))
def m_condition (x : nM)  : nM := (if x.1 3 = 61 then k_condition_57 x 6 else (if x.1 3 = 35 then k_condition_57 x 7 else (if x.1 3 = 60 then k_condition_57 x 8 else (if x.1 3 = 62 then k_condition_57 x 9 else k_condition_57 x 0))))
def o_condition (x : nM)  : Prop := ((x.1 3 = 61 → p_condition_57 x 6) ∧ (¬ (x.1 3 = 61) → ((x.1 3 = 35 → p_condition_57 x 7) ∧ (¬ (x.1 3 = 35) → ((x.1 3 = 60 → p_condition_57 x 8) ∧ (¬ (x.1 3 = 60) → ((x.1 3 = 62 → p_condition_57 x 9) ∧ (¬ (x.1 3 = 62) → p_condition_57 x 0))))))))
set_option maxHeartbeats 4000000 in
set_option maxRecDepth 100000 in
theorem t_condition (l : Launch) (G : nn_G) (sz : Nat) (mo : Nat) (ad : Nat → Nat) (x : nM)  (hk : o_condition x) : Met l y_Mo_condition w_Mo_condition ({ frames := 3, cells := 0, slots := 0, locals := 64 }) (nn_P G [.ref mo] (nm_W G mo ad x) sz) (nm_Qv G mo ad (m_condition x) (va_A (nm_W G mo ad x) sz)) 0 0 (va_A (nm_W G mo ad x) sz) := by
  refine Met.ofW (cc := b_Mo_condition) (maxL := 2) (ret := none) (by decide) rfl ?_
  intro p e s m args below meth c s₁ B hml hv
  obtain ⟨rfl, hsz, hP, hK, hD0, hN⟩ := hv
  have hx := B.exec
  have hb := B.bytes
  have hr := B.returns
  have hts := atoms_spec (ws := w_Mo_condition) B.pre
  have hg : ∀ w ∈ nn_gw, w.before _ s = true := fun w h => hts w (List.mem_cons_of_mem _ h)
  have hown : s.vm.findClass R_Mo = some m.cls := findClass_of_methodNamed B.named
  subst hsz
  have hD := hD0.self (sz := s.heap.size)
  generalize hAe : va_A (nm_W G mo ad x) s.heap.size = A at hD ⊢
  have hA : ∀ q : Nat, s.heap.size ≤ q → A q := fun q h => by rw [← hAe]; exact Or.inr h
  clear hAe
  have hS : va_S A s.heap s.heap [] := va_S.rf
  have hP : va_P G.1 nn_cls (nm_W G mo ad x) s.heap := hP
  have hl := lv_entry ([.ref mo]) (n := 2) (Nat.le_of_ble_eq_true rfl)
  rw [lg_entry_eq]
  generalize (lg_sl ([.ref mo]) ++ List.replicate (2 - (lg_sl ([.ref mo])).length) Slot.unset).toArray = ls at hl ⊢
  have hl : lv_has ls 2 [(0, .ref mo)] := hl
  have J71 : ∀ (x : nM) (v1 : Int32) (ls : Array Slot) (H : Heap) (locs : List Loc), p_condition_71 x v1 → lv_has ls 2 [(0, .ref mo), (1, .int v1)] → va_P G.1 nn_cls (nm_W G mo ad x) H → va_D A (nm_W G mo ad x) → va_S A s.heap H locs → W p l e (headSpec w_Mo_condition ({ frames := 3, cells := 0, slots := 0, locals := 64 })).room s m [.ref mo].toArray below meth c H locs 0 0 (MQ below (nm_Qv G mo ad (k_condition_71 x v1) A) [.ref mo].toArray s 0 0 A) (F0 m 71 ls []) := by
    intro x v1 ls H locs hk hl hP hD hS
    unfold p_condition_71 at hk
    refine lv_aload_n hx hb d_Mo_condition_71 rfl (lv_at hl 0 rfl) ?_
    obtain ⟨hi, hk⟩ := hk
    have hFc := nm_free hD hS hA
    refine va_callv (va_runV (As := []) (rest := []) ⟨hx, hb, hml, hown, hts⟩ (t_goOn l G _ mo ad x hi) (cwV 0 hts (nn_gV mw_1068 mw_1065 mw_1067 mw_53 mw_94) rfl rfl rfl (by decide +kernel) ⟨Nat.le_of_ble_eq_true rfl, Nat.le_of_ble_eq_true rfl⟩) (nn_preV (va_recv hK hP rfl (q0 := 0) rfl) hP hD hK hN) rfl rfl hl.1 rfl (lv_room (Nat.le_of_ble_eq_true rfl)) d_Mo_condition_72 ⟨Nat.le_of_ble_eq_true rfl, Nat.le_of_ble_eq_true rfl⟩) hS (fun q _ h => hFc q h) hFc (fun u t H locs ht hvm hw hB hz1 hk1 hS => ?_)
    obtain ⟨hP1, hD1⟩ := hB
    rw [ht] at hP1
    have hP := hP1
    have hD := hD1.weaken (fun _ _ _ h => hFc _ h)
    refine lv_aload_n hx hb d_Mo_condition_75 rfl (lv_at hl 0 rfl) ?_
    refine lv_bipush (v := 23) hx hb d_Mo_condition_76 (by decide) ?_
    refine lv_sipush (v := 144) hx hb d_Mo_condition_78 (by decide) ?_
    refine lv_iload_n hx hb d_Mo_condition_81 rfl (lv_at hl 1 rfl) ?_
    obtain ⟨hi, hk⟩ := hk
    have hFc := nm_free hD hS hA
    refine va_callv (va_runV (As := [.int 23, .int 144, .int v1]) (rest := []) ⟨hx, hb, hml, hown, hts⟩ (t_push l G _ mo ad (m_goOn x) 23 144 v1 hi) (cwV 3 hts (nn_gV mw_1028 mw_1025 mw_1027 mw_46 mw_94) rfl rfl rfl (by decide +kernel) ⟨Nat.le_of_ble_eq_true rfl, Nat.le_of_ble_eq_true rfl⟩) (nn_preV (va_recv hK hP rfl (q0 := 0) rfl) hP hD hK hN) rfl rfl hl.1 rfl (lv_room (Nat.le_of_ble_eq_true rfl)) d_Mo_condition_82 ⟨Nat.le_of_ble_eq_true rfl, Nat.le_of_ble_eq_true rfl⟩) hS (fun q _ h => hFc q h) hFc (fun u t H locs ht hvm hw hB hz1 hk1 hS => ?_)
    obtain ⟨hP1, hD1⟩ := hB
    rw [ht] at hP1
    have hP := hP1
    have hD := hD1.weaken (fun _ _ _ h => hFc _ h)
    refine lv_aload_n hx hb d_Mo_condition_85 rfl (lv_at hl 0 rfl) ?_
    refine lv_bipush (v := 14) hx hb d_Mo_condition_86 (by decide) ?_
    refine lv_iconst (v := 0) hx hb d_Mo_condition_88 (by decide) ?_
    refine lv_iconst (v := 0) hx hb d_Mo_condition_89 (by decide) ?_
    obtain ⟨hi, hk⟩ := hk
    have hFc := nm_free hD hS hA
    refine va_callv (va_runV (As := [.int 14, .int 0, .int 0]) (rest := []) ⟨hx, hb, hml, hown, hts⟩ (t_push l G _ mo ad (m_push (m_goOn x) 23 144 v1) 14 0 0 hi) (cwV 3 hts (nn_gV mw_1028 mw_1025 mw_1027 mw_46 mw_94) rfl rfl rfl (by decide +kernel) ⟨Nat.le_of_ble_eq_true rfl, Nat.le_of_ble_eq_true rfl⟩) (nn_preV (va_recv hK hP rfl (q0 := 0) rfl) hP hD hK hN) rfl rfl hl.1 rfl (lv_room (Nat.le_of_ble_eq_true rfl)) d_Mo_condition_90 ⟨Nat.le_of_ble_eq_true rfl, Nat.le_of_ble_eq_true rfl⟩) hS (fun q _ h => hFc q h) hFc (fun u t H locs ht hvm hw hB hz1 hk1 hS => ?_)
    obtain ⟨hP1, hD1⟩ := hB
    rw [ht] at hP1
    have hP := hP1
    have hD := hD1.weaken (fun _ _ _ h => hFc _ h)
    have hR : k_condition_71 x v1 = m_push (m_push (m_goOn x) 23 144 v1) 14 0 0 := by rw [k_condition_71]
    refine nm_W1 hR ?_
    exact W.vret hx hb hr (fun t ht hW => ⟨⟨(), rfl, trivial, ⟨by rw [ht]; exact hP, hD⟩⟩, hS.F ht⟩) hS.2.2 d_Mo_condition_93
  have J57 : ∀ (x : nM) (w0 : Int32) (ls : Array Slot) (H : Heap) (locs : List Loc), p_condition_57 x w0 → lv_has ls 2 [(0, .ref mo)] → va_P G.1 nn_cls (nm_W G mo ad x) H → va_D A (nm_W G mo ad x) → va_S A s.heap H locs → W p l e (headSpec w_Mo_condition ({ frames := 3, cells := 0, slots := 0, locals := 64 })).room s m [.ref mo].toArray below meth c H locs 0 0 (MQ below (nm_Qv G mo ad (k_condition_57 x w0) A) [.ref mo].toArray s 0 0 A) (F0 m 57 ls [.int w0]) := by
    intro x w0 ls H locs hk hl hP hD hS
    unfold p_condition_57 at hk
    refine lv_istore_n (lv' := [(1, .int w0), (0, .ref mo)]) hx hb d_Mo_condition_57 rfl hl (by decide) rfl (fun ls hl => ?_)
    refine lv_iload_n hx hb d_Mo_condition_58 rfl (lv_at hl 0 rfl) ?_
    refine lv_if_ne (tgt := 71) hx hb d_Mo_condition_59 rfl (fun hc59 => ?_) (fun hc59 => ?_)
    · skip
      have hk := hk.2 hc59
      have hl := lv_sub (l' := [(0, .ref mo), (1, .int w0)]) hl [1, 0] rfl
      have hR : k_condition_57 x w0 = k_condition_71 x w0 := by rw [k_condition_57]; rw [if_neg hc59]
      exact nm_W1 hR (J71 x w0 ls _ _ hk hl hP hD hS)
    · skip
      have hk := hk.1 hc59
      refine lv_aload_n hx hb d_Mo_condition_62 rfl (lv_at hl 1 rfl) ?_
      refine lv_iconst (v := 1) hx hb d_Mo_condition_63 (by decide) ?_
      refine lv_aload_n hx hb d_Mo_condition_64 rfl (lv_at hl 1 rfl) ?_
      refine nm_get hx hb hg hown hK hP 4 (by decide) (by decide) (hg _ mw_894) d_Mo_condition_65 ?_
      have hFc := nm_free hD hS hA
      refine va_callv (va_runV (As := [.int 1, .int (x.1 4)]) (rest := []) ⟨hx, hb, hml, hown, hts⟩ (t_fail l G _ mo ad x 1 (x.1 4)) (cwV 2 hts (nn_gV mw_1080 mw_1077 mw_1079 mw_56 mw_94) rfl rfl rfl (by decide +kernel) ⟨Nat.le_of_ble_eq_true rfl, Nat.le_of_ble_eq_true rfl⟩) (nn_preV (va_recv hK hP rfl (q0 := 0) rfl) hP hD hK hN) rfl rfl hl.1 rfl (lv_room (Nat.le_of_ble_eq_true rfl)) d_Mo_condition_68 ⟨Nat.le_of_ble_eq_true rfl, Nat.le_of_ble_eq_true rfl⟩) hS (fun q _ h => hFc q h) hFc (fun u t H locs ht hvm hw hB hz1 hk1 hS => ?_)
      obtain ⟨hP1, hD1⟩ := hB
      rw [ht] at hP1
      have hP := hP1
      have hD := hD1.weaken (fun _ _ _ h => hFc _ h)
      have hl := lv_sub (l' := [(0, .ref mo), (1, .int w0)]) hl [1, 0] rfl
      have hR : k_condition_57 x w0 = k_condition_71 (m_fail x 1 (x.1 4)) w0 := by rw [k_condition_57]; rw [if_pos hc59]
      exact nm_W1 hR (J71 (m_fail x 1 (x.1 4)) w0 ls _ _ hk hl hP hD hS)
  unfold o_condition at hk
  refine lv_aload_n hx hb d_Mo_condition_0 rfl (lv_at hl 0 rfl) ?_
  refine nm_get hx hb hg hown hK hP 3 (by decide) (by decide) (hg _ mw_893) d_Mo_condition_1 ?_
  refine lv_bipush (v := 61) hx hb d_Mo_condition_4 (by decide) ?_
  refine lv_icmp_ne (tgt := 14) hx hb d_Mo_condition_6 rfl (fun hc6 => ?_) (fun hc6 => ?_)
  · skip
    have hk := hk.2 hc6
    refine lv_aload_n hx hb d_Mo_condition_14 rfl (lv_at hl 0 rfl) ?_
    refine nm_get hx hb hg hown hK hP 3 (by decide) (by decide) (hg _ mw_893) d_Mo_condition_15 ?_
    refine lv_bipush (v := 35) hx hb d_Mo_condition_18 (by decide) ?_
    refine lv_icmp_ne (tgt := 28) hx hb d_Mo_condition_20 rfl (fun hc20 => ?_) (fun hc20 => ?_)
    · skip
      have hk := hk.2 hc20
      refine lv_aload_n hx hb d_Mo_condition_28 rfl (lv_at hl 0 rfl) ?_
      refine nm_get hx hb hg hown hK hP 3 (by decide) (by decide) (hg _ mw_893) d_Mo_condition_29 ?_
      refine lv_bipush (v := 60) hx hb d_Mo_condition_32 (by decide) ?_
      refine lv_icmp_ne (tgt := 42) hx hb d_Mo_condition_34 rfl (fun hc34 => ?_) (fun hc34 => ?_)
      · skip
        have hk := hk.2 hc34
        refine lv_aload_n hx hb d_Mo_condition_42 rfl (lv_at hl 0 rfl) ?_
        refine nm_get hx hb hg hown hK hP 3 (by decide) (by decide) (hg _ mw_893) d_Mo_condition_43 ?_
        refine lv_bipush (v := 62) hx hb d_Mo_condition_46 (by decide) ?_
        refine lv_icmp_ne (tgt := 56) hx hb d_Mo_condition_48 rfl (fun hc48 => ?_) (fun hc48 => ?_)
        · skip
          have hk := hk.2 hc48
          refine lv_iconst (v := 0) hx hb d_Mo_condition_56 (by decide) ?_
          have hl := lv_sub (l' := [(0, .ref mo)]) hl [0] rfl
          have hR : m_condition x = k_condition_57 x 0 := by rw [m_condition]; rw [if_neg hc6]; rw [if_neg hc20]; rw [if_neg hc34]; rw [if_neg hc48]
          exact nm_W1 hR (J57 x 0 ls _ _ hk hl hP hD hS)
        · skip
          have hk := hk.1 hc48
          refine lv_bipush (v := 9) hx hb d_Mo_condition_51 (by decide) ?_
          refine lv_goto (tgt := 57) hx hb d_Mo_condition_53 rfl ?_
          have hl := lv_sub (l' := [(0, .ref mo)]) hl [0] rfl
          have hR : m_condition x = k_condition_57 x 9 := by rw [m_condition]; rw [if_neg hc6]; rw [if_neg hc20]; rw [if_neg hc34]; rw [if_pos hc48]
          exact nm_W1 hR (J57 x 9 ls _ _ hk hl hP hD hS)
      · skip
        have hk := hk.1 hc34
        refine lv_bipush (v := 8) hx hb d_Mo_condition_37 (by decide) ?_
        refine lv_goto (tgt := 57) hx hb d_Mo_condition_39 rfl ?_
        have hl := lv_sub (l' := [(0, .ref mo)]) hl [0] rfl
        have hR : m_condition x = k_condition_57 x 8 := by rw [m_condition]; rw [if_neg hc6]; rw [if_neg hc20]; rw [if_pos hc34]
        exact nm_W1 hR (J57 x 8 ls _ _ hk hl hP hD hS)
    · skip
      have hk := hk.1 hc20
      refine lv_bipush (v := 7) hx hb d_Mo_condition_23 (by decide) ?_
      refine lv_goto (tgt := 57) hx hb d_Mo_condition_25 rfl ?_
      have hl := lv_sub (l' := [(0, .ref mo)]) hl [0] rfl
      have hR : m_condition x = k_condition_57 x 7 := by rw [m_condition]; rw [if_neg hc6]; rw [if_pos hc20]
      exact nm_W1 hR (J57 x 7 ls _ _ hk hl hP hD hS)
  · skip
    have hk := hk.1 hc6
    refine lv_bipush (v := 6) hx hb d_Mo_condition_9 (by decide) ?_
    refine lv_goto (tgt := 57) hx hb d_Mo_condition_11 rfl ?_
    have hl := lv_sub (l' := [(0, .ref mo)]) hl [0] rfl
    have hR : m_condition x = k_condition_57 x 6 := by rw [m_condition]; rw [if_pos hc6]
    exact nm_W1 hR (J57 x 6 ls _ _ hk hl hP hD hS)
