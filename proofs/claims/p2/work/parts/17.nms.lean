/-! contracts (by wip/p1/gen.py) -/
theorem nz_m1 (j : Nat) : nI (j + 1) + (-1) = nI j := by
  rw [← nI_add]
  rw [show nI 1 = 1 from rfl, Int32.add_assoc, show (1 : Int32) + (-1) = 0 by decide, Int32.add_zero]
theorem nz_sm (x : Int32) : x - 1 = x + (-1) := Int32.sub_eq_add_neg ..
theorem nz_nlt {a b : Nat} (h : ¬ nI a < nI b) (hb : b < 2 ^ 31) : b ≤ a := Nat.not_lt.mp (fun q => h (nI_lt q hb))
theorem nz_min {a b : Nat} (ha : a < 2 ^ 31) (hb : b < 2 ^ 31) : (if nI b < nI a then nI b else nI a) = nI (min a b) := by
  by_cases h : b < a
  · rw [if_pos (nI_lt h ha), Nat.min_eq_right (by omega)]
  · rw [if_neg (fun q => h ((nI_ltI hb ha).mp q)), Nat.min_eq_left (by omega)]
theorem nz_cau {ca : Nat → Int32} {lv nc : Nat} (hl : lv < 4) (hn : nc ≤ 90) (h : ∀ j, 1 ≤ j → j ≤ lv → ∃ n, n ≤ 90 ∧ ca j = nI n) : ∀ j, 1 ≤ j → j ≤ lv + 1 → ∃ n, n ≤ 90 ∧ upd ca (nI (lv + 1)).toNatClampNeg (nI nc) j = nI n := by
  intro j h1 h2
  rw [nI_clamp (by omega)]
  by_cases e : j = lv + 1
  · exact ⟨nc, hn, by rw [e]; simp [upd]⟩
  · obtain ⟨n, g1, g2⟩ := h j h1 (by omega)
    exact ⟨n, g1, by simp [upd, e, g2]⟩

theorem nz_l0 {tk : Nat → Nat} {A : Nat → Prop} {U : State} {H : Heap} (hE : nz_E tk A U H) : va_Nw (nz_fl "NestPascal$Names" 29 "id") U := hE.2.2.2.2.2.2 ("NestPascal$Names", 29, "id") (by decide)
theorem nz_l1 {tk : Nat → Nat} {A : Nat → Prop} {U : State} {H : Heap} (hE : nz_E tk A U H) : va_Nw (nz_fl "NestPascal$Compiler" 122 "kind") U := hE.2.2.2.2.2.2 ("NestPascal$Compiler", 122, "kind") (by decide)
theorem nz_l2 {tk : Nat → Nat} {A : Nat → Prop} {U : State} {H : Heap} (hE : nz_E tk A U H) : va_Nw (nz_fl "NestPascal$Names" 43 "kind") U := hE.2.2.2.2.2.2 ("NestPascal$Names", 43, "kind") (by decide)
theorem nz_l3 {tk : Nat → Nat} {A : Nat → Prop} {U : State} {H : Heap} (hE : nz_E tk A U H) : va_Nw (nz_fl "NestPascal$Names" 36 "level") U := hE.2.2.2.2.2.2 ("NestPascal$Names", 36, "level") (by decide)
theorem nz_l4 {tk : Nat → Nat} {A : Nat → Prop} {U : State} {H : Heap} (hE : nz_E tk A U H) : va_Nw (nz_fl "NestPascal$Compiler" 294 "level") U := hE.2.2.2.2.2.2 ("NestPascal$Compiler", 294, "level") (by decide)
theorem nz_l5 {tk : Nat → Nat} {A : Nat → Prop} {U : State} {H : Heap} (hE : nz_E tk A U H) : va_Nw (nz_fl "NestPascal$Names" 46 "place") U := hE.2.2.2.2.2.2 ("NestPascal$Names", 46, "place") (by decide)
theorem nz_l6 {tk : Nat → Nat} {A : Nat → Prop} {U : State} {H : Heap} (hE : nz_E tk A U H) : va_Nw (nz_fl "NestPascal$Compiler" 296 "place") U := hE.2.2.2.2.2.2 ("NestPascal$Compiler", 296, "place") (by decide)
theorem nz_l7 {tk : Nat → Nat} {A : Nat → Prop} {U : State} {H : Heap} (hE : nz_E tk A U H) : va_Nw (nz_fl "NestPascal$Compiler" 125 "size") U := hE.2.2.2.2.2.2 ("NestPascal$Compiler", 125, "size") (by decide)
theorem nz_l8 {tk : Nat → Nat} {A : Nat → Prop} {U : State} {H : Heap} (hE : nz_E tk A U H) : va_Nw (nz_fl "NestPascal$Names" 49 "size") U := hE.2.2.2.2.2.2 ("NestPascal$Names", 49, "size") (by decide)
theorem nz_pos0 {a : Nat} (h : 1 ≤ a) (ha : a < 2 ^ 31) : ¬ nI a ≤ 0 := fun q => absurd ((nI_leI (b := 0) ha (by decide)).mp q) (by omega)

theorem mw_188 : (.fieldLink R_Ns 17 R_Ns "count" "I" : Cond) ∈ nn_gw := nn_at 188 (by decide +kernel) (by decide +kernel)
theorem mw_190 : (.fieldLink R_Ns 25 R_Ns "level" "I" : Cond) ∈ nn_gw := nn_at 190 (by decide +kernel) (by decide +kernel)
theorem d_Ns_clear_0 : decode b_Ns_clear 0 = .ok (.aload_n 0, 1) := by decide +kernel
theorem d_Ns_clear_1 : decode b_Ns_clear 1 = .ok (.iconst 0, 1) := by decide +kernel
theorem d_Ns_clear_2 : decode b_Ns_clear 2 = .ok (.putfield 17, 3) := by decide +kernel
theorem d_Ns_clear_5 : decode b_Ns_clear 5 = .ok (.aload_n 0, 1) := by decide +kernel
theorem d_Ns_clear_6 : decode b_Ns_clear 6 = .ok (.iconst 0, 1) := by decide +kernel
theorem d_Ns_clear_7 : decode b_Ns_clear 7 = .ok (.putfield 25, 3) := by decide +kernel
theorem d_Ns_clear_10 : decode b_Ns_clear 10 = .ok (.return_, 1) := by decide +kernel

set_option maxHeartbeats 4000000 in
set_option maxRecDepth 100000 in
theorem n_clear (l : Launch) (G : nn_G) (tk : Nat → Nat) (sz : Nat) (ad : Nat → Nat) (nc lv : Nat) : Met l y_Ns_clear w_Ns_clear ({ frames := 0, cells := 0, slots := 0, locals := 0 }) (nz_P G tk [.ref (ad 5)] [((ad 5), .inr (5, [.ref (ad 6), .int (nI nc), .ref (ad 7), .int (nI lv)]))] sz) (va_Qv (fun u : Unit => True) (fun u t => va_P G.1 nn_cls [((ad 5), .inr (5, [.ref (ad 6), .int (nI 0), .ref (ad 7), .int (nI 0)]))] t.heap ∧ va_D (va_A [((ad 5), .inr (5, [.ref (ad 6), .int (nI nc), .ref (ad 7), .int (nI lv)]))] sz) [((ad 5), .inr (5, [.ref (ad 6), .int (nI 0), .ref (ad 7), .int (nI 0)]))]) (va_A [((ad 5), .inr (5, [.ref (ad 6), .int (nI nc), .ref (ad 7), .int (nI lv)]))] sz)) 0 0 (va_A [((ad 5), .inr (5, [.ref (ad 6), .int (nI nc), .ref (ad 7), .int (nI lv)]))] sz) := by
  refine Met.ofW (cc := b_Ns_clear) (maxL := 1) (ret := none) (by decide) rfl ?_
  intro p e s m args below meth c s₁ B hml hv
  obtain ⟨rfl, ⟨hsz, hP, hK, hD0, hN⟩, hE⟩ := hv
  have hx := B.exec
  have hb := B.bytes
  have hr := B.returns
  have hts := atoms_spec (ws := w_Ns_clear) B.pre
  have hg : ∀ w ∈ nn_gw, w.before _ s = true := fun w h => hts w (List.mem_cons_of_mem _ h)
  have hown : s.vm.findClass R_Ns = some m.cls := findClass_of_methodNamed B.named
  have hlocks := B.notSynchronized
  subst hsz
  have hD := hD0.self (sz := s.heap.size)
  generalize hAe : va_A [((ad 5), .inr (5, [.ref (ad 6), .int (nI nc), .ref (ad 7), .int (nI lv)]))] s.heap.size = A at hD hE ⊢
  have hA : ∀ q : Nat, s.heap.size ≤ q → A q := fun q h => by rw [← hAe]; exact Or.inr h
  have hS : va_S A s.heap s.heap [] := va_S.rf
  have hP : va_P G.1 nn_cls [((ad 5), .inr (5, [.ref (ad 6), .int (nI nc), .ref (ad 7), .int (nI lv)]))] s.heap := hP
  have hl := lv_entry ([.ref (ad 5)]) (n := 1) (Nat.le_of_ble_eq_true rfl)
  rw [lg_entry_eq]
  generalize (lg_sl ([.ref (ad 5)]) ++ List.replicate (1 - (lg_sl ([.ref (ad 5)])).length) Slot.unset).toArray = ls at hl ⊢
  have hl : lv_has ls 1 [(0, .ref (ad 5))] := hl
  refine lv_aload_n hx hb d_Ns_clear_0 rfl (lv_at hl 0 rfl) ?_
  refine lv_iconst (v := 0) hx hb d_Ns_clear_1 (by decide) ?_
  refine va_put (D := G.1) (ci := 5) (v := .int 0) (ty := .int) (C := R_Ns) (T := T_Ns) (N := 4) hx hb hg in_Ns t_Ns ok_Ns nm_Ns hown hK hP hD hS 0 rfl rfl 1 (by decide) (hg _ mw_188) (fun _ h9 => h9) rfl (by decide +kernel) rfl rfl (Nat.le_of_ble_eq_true rfl) d_Ns_clear_2 (fun H locs hP hD hS => ?_)
  have hP : va_P G.1 nn_cls [((ad 5), .inr (5, [.ref (ad 6), .int 0, .ref (ad 7), .int (nI lv)]))] H := hP
  have hD : va_D A [((ad 5), .inr (5, [.ref (ad 6), .int 0, .ref (ad 7), .int (nI lv)]))] := hD
  refine lv_aload_n hx hb d_Ns_clear_5 rfl (lv_at hl 0 rfl) ?_
  refine lv_iconst (v := 0) hx hb d_Ns_clear_6 (by decide) ?_
  refine va_put (D := G.1) (ci := 5) (v := .int 0) (ty := .int) (C := R_Ns) (T := T_Ns) (N := 4) hx hb hg in_Ns t_Ns ok_Ns nm_Ns hown hK hP hD hS 0 rfl rfl 3 (by decide) (hg _ mw_190) (fun _ h9 => h9) rfl (by decide +kernel) rfl rfl (Nat.le_of_ble_eq_true rfl) d_Ns_clear_7 (fun H locs hP hD hS => ?_)
  have hP : va_P G.1 nn_cls [((ad 5), .inr (5, [.ref (ad 6), .int 0, .ref (ad 7), .int 0]))] H := hP
  have hD : va_D A [((ad 5), .inr (5, [.ref (ad 6), .int 0, .ref (ad 7), .int 0]))] := hD
  refine W.widen (k := 0) (n := 0) (Nat.le_of_ble_eq_true rfl) (Nat.le_of_ble_eq_true rfl) ?_
  have hP9 := hP.sub (ws' := [((ad 5), .inr (5, [.ref (ad 6), .int 0, .ref (ad 7), .int 0]))]) [0] rfl
  have hD9 := hD.sub (ws' := [((ad 5), .inr (5, [.ref (ad 6), .int 0, .ref (ad 7), .int 0]))]) [0] (by decide) rfl
  exact W.vret hx hb hr (fun t ht hW => ⟨⟨(), rfl, trivial, ⟨by rw [ht]; exact hP9, hD9⟩⟩, hS.F ht⟩) hS.2.2 d_Ns_clear_10

theorem d_Ns_level_0 : decode b_Ns_level 0 = .ok (.aload_n 0, 1) := by decide +kernel
theorem d_Ns_level_1 : decode b_Ns_level 1 = .ok (.getfield 25, 3) := by decide +kernel
theorem d_Ns_level_4 : decode b_Ns_level 4 = .ok (.ireturn, 1) := by decide +kernel

set_option maxHeartbeats 4000000 in
set_option maxRecDepth 100000 in
theorem n_level (l : Launch) (G : nn_G) (tk : Nat → Nat) (sz : Nat) (ad : Nat → Nat) (nc lv : Nat) : Met l y_Ns_level w_Ns_level ({ frames := 0, cells := 0, slots := 0, locals := 0 }) (nz_PR G tk [.ref (ad 5)] [((ad 5), .inr (5, [.ref (ad 6), .int (nI nc), .ref (ad 7), .int (nI lv)]))] sz) (vp_Si (fun r => r = nI lv)) 0 0 (fun _ => False) := by
  refine Met.ofW (cc := b_Ns_level) (maxL := 1) (ret := some .int) (by decide) rfl ?_
  intro p e s m args below meth c s₁ B hml hv
  obtain ⟨rfl, ⟨hsz, hP, hK, hD0, hN⟩, hE⟩ := hv
  have hx := B.exec
  have hb := B.bytes
  have hr := B.returns
  have hts := atoms_spec (ws := w_Ns_level) B.pre
  have hg : ∀ w ∈ nn_gw, w.before _ s = true := fun w h => hts w (List.mem_cons_of_mem _ h)
  have hown : s.vm.findClass R_Ns = some m.cls := findClass_of_methodNamed B.named
  have hlocks := B.notSynchronized
  subst hsz
  have hD := hD0
  generalize hAe : (fun _ : Nat => True) = A at hD
  have hA : ∀ q : Nat, s.heap.size ≤ q → A q := fun q h => by rw [← hAe]; trivial
  have hSE : va_S (fun _ => False) s.heap s.heap [] := va_S.rf
  have hS : va_S A s.heap s.heap [] := va_S.rf
  have hP : va_P G.1 nn_cls [((ad 5), .inr (5, [.ref (ad 6), .int (nI nc), .ref (ad 7), .int (nI lv)]))] s.heap := hP
  have hl := lv_entry ([.ref (ad 5)]) (n := 1) (Nat.le_of_ble_eq_true rfl)
  rw [lg_entry_eq]
  generalize (lg_sl ([.ref (ad 5)]) ++ List.replicate (1 - (lg_sl ([.ref (ad 5)])).length) Slot.unset).toArray = ls at hl ⊢
  have hl : lv_has ls 1 [(0, .ref (ad 5))] := hl
  refine lv_aload_n hx hb d_Ns_level_0 rfl (lv_at hl 0 rfl) ?_
  refine va_get (D := G.1) (ci := 5) (v := .int (nI lv)) (C := R_Ns) (T := T_Ns) (N := 4) hx hb hg in_Ns hown hK hP 0 rfl rfl 3 (by decide) (hg _ mw_190) (fun _ h9 => h9) rfl d_Ns_level_1 ?_
  exact W.iret (v := nI lv) hx hb hr (fun t ht hW => ⟨nI lv, rfl, rfl, ht⟩) (fun q h => by cases h) d_Ns_level_4

theorem d_Ns_mayEnterBlock_0 : decode b_Ns_mayEnterBlock 0 = .ok (.aload_n 0, 1) := by decide +kernel
theorem d_Ns_mayEnterBlock_1 : decode b_Ns_mayEnterBlock 1 = .ok (.getfield 25, 3) := by decide +kernel
theorem d_Ns_mayEnterBlock_4 : decode b_Ns_mayEnterBlock 4 = .ok (.iconst 4, 1) := by decide +kernel
theorem d_Ns_mayEnterBlock_5 : decode b_Ns_mayEnterBlock 5 = .ok (.if_icmp .ge 7, 3) := by decide +kernel
theorem d_Ns_mayEnterBlock_8 : decode b_Ns_mayEnterBlock 8 = .ok (.iconst 1, 1) := by decide +kernel
theorem d_Ns_mayEnterBlock_9 : decode b_Ns_mayEnterBlock 9 = .ok (.goto 4, 3) := by decide +kernel
theorem d_Ns_mayEnterBlock_12 : decode b_Ns_mayEnterBlock 12 = .ok (.iconst 0, 1) := by decide +kernel
theorem d_Ns_mayEnterBlock_13 : decode b_Ns_mayEnterBlock 13 = .ok (.ireturn, 1) := by decide +kernel

set_option maxHeartbeats 4000000 in
set_option maxRecDepth 100000 in
theorem n_mayEnter (l : Launch) (G : nn_G) (tk : Nat → Nat) (sz : Nat) (ad : Nat → Nat) (nc lv : Nat) (hlv : lv ≤ 4) : Met l y_Ns_mayEnterBlock w_Ns_mayEnterBlock ({ frames := 0, cells := 0, slots := 0, locals := 0 }) (nz_PR G tk [.ref (ad 5)] [((ad 5), .inr (5, [.ref (ad 6), .int (nI nc), .ref (ad 7), .int (nI lv)]))] sz) (vp_Si (fun r => r = 0 ∨ lv < 4)) 0 0 (fun _ => False) := by
  refine Met.ofW (cc := b_Ns_mayEnterBlock) (maxL := 1) (ret := some .boolean) (by decide) rfl ?_
  intro p e s m args below meth c s₁ B hml hv
  obtain ⟨rfl, ⟨hsz, hP, hK, hD0, hN⟩, hE⟩ := hv
  have hx := B.exec
  have hb := B.bytes
  have hr := B.returns
  have hts := atoms_spec (ws := w_Ns_mayEnterBlock) B.pre
  have hg : ∀ w ∈ nn_gw, w.before _ s = true := fun w h => hts w (List.mem_cons_of_mem _ h)
  have hown : s.vm.findClass R_Ns = some m.cls := findClass_of_methodNamed B.named
  have hlocks := B.notSynchronized
  subst hsz
  have hD := hD0
  generalize hAe : (fun _ : Nat => True) = A at hD
  have hA : ∀ q : Nat, s.heap.size ≤ q → A q := fun q h => by rw [← hAe]; trivial
  have hSE : va_S (fun _ => False) s.heap s.heap [] := va_S.rf
  have hS : va_S A s.heap s.heap [] := va_S.rf
  have hP : va_P G.1 nn_cls [((ad 5), .inr (5, [.ref (ad 6), .int (nI nc), .ref (ad 7), .int (nI lv)]))] s.heap := hP
  have hl := lv_entry ([.ref (ad 5)]) (n := 1) (Nat.le_of_ble_eq_true rfl)
  rw [lg_entry_eq]
  generalize (lg_sl ([.ref (ad 5)]) ++ List.replicate (1 - (lg_sl ([.ref (ad 5)])).length) Slot.unset).toArray = ls at hl ⊢
  have hl : lv_has ls 1 [(0, .ref (ad 5))] := hl
  refine lv_aload_n hx hb d_Ns_mayEnterBlock_0 rfl (lv_at hl 0 rfl) ?_
  refine va_get (D := G.1) (ci := 5) (v := .int (nI lv)) (C := R_Ns) (T := T_Ns) (N := 4) hx hb hg in_Ns hown hK hP 0 rfl rfl 3 (by decide) (hg _ mw_190) (fun _ h9 => h9) rfl d_Ns_mayEnterBlock_1 ?_
  refine lv_iconst (v := 4) hx hb d_Ns_mayEnterBlock_4 (by decide) ?_
  refine lv_icmp_ge (tgt := 12) hx hb d_Ns_mayEnterBlock_5 rfl (fun hc5 => ?_) (fun hc5 => ?_)
  · skip
    refine lv_iconst (v := 0) hx hb d_Ns_mayEnterBlock_12 (by decide) ?_
    exact W.zret (v := 0) hx hb hr (by first | rfl | rfl) (fun t ht hW => ⟨0, rfl, Or.inl rfl, ht⟩) (fun q h => by cases h) d_Ns_mayEnterBlock_13
  · skip
    refine lv_iconst (v := 1) hx hb d_Ns_mayEnterBlock_8 (by decide) ?_
    refine lv_goto (tgt := 13) hx hb d_Ns_mayEnterBlock_9 rfl ?_
    exact W.zret (v := 1) hx hb hr (by first | rfl | rfl) (fun t ht hW => ⟨1, rfl, Or.inr (nz_nle (b := 4) hc5 (by omega)), ht⟩) (fun q h => by cases h) d_Ns_mayEnterBlock_13

theorem mw_189 : (.fieldLink R_Ns 21 R_Ns "countAround" "[I" : Cond) ∈ nn_gw := nn_at 189 (by decide +kernel) (by decide +kernel)
theorem d_Ns_enterBlock_0 : decode b_Ns_enterBlock 0 = .ok (.aload_n 0, 1) := by decide +kernel
theorem d_Ns_enterBlock_1 : decode b_Ns_enterBlock 1 = .ok (.getfield 25, 3) := by decide +kernel
theorem d_Ns_enterBlock_4 : decode b_Ns_enterBlock 4 = .ok (.iconst 4, 1) := by decide +kernel
theorem d_Ns_enterBlock_5 : decode b_Ns_enterBlock 5 = .ok (.if_icmp .ge 26, 3) := by decide +kernel
theorem d_Ns_enterBlock_8 : decode b_Ns_enterBlock 8 = .ok (.aload_n 0, 1) := by decide +kernel
theorem d_Ns_enterBlock_9 : decode b_Ns_enterBlock 9 = .ok (.dup, 1) := by decide +kernel
theorem d_Ns_enterBlock_10 : decode b_Ns_enterBlock 10 = .ok (.getfield 25, 3) := by decide +kernel
theorem d_Ns_enterBlock_13 : decode b_Ns_enterBlock 13 = .ok (.iconst 1, 1) := by decide +kernel
theorem d_Ns_enterBlock_14 : decode b_Ns_enterBlock 14 = .ok (.iadd, 1) := by decide +kernel
theorem d_Ns_enterBlock_15 : decode b_Ns_enterBlock 15 = .ok (.putfield 25, 3) := by decide +kernel
theorem d_Ns_enterBlock_18 : decode b_Ns_enterBlock 18 = .ok (.aload_n 0, 1) := by decide +kernel
theorem d_Ns_enterBlock_19 : decode b_Ns_enterBlock 19 = .ok (.getfield 21, 3) := by decide +kernel
theorem d_Ns_enterBlock_22 : decode b_Ns_enterBlock 22 = .ok (.aload_n 0, 1) := by decide +kernel
theorem d_Ns_enterBlock_23 : decode b_Ns_enterBlock 23 = .ok (.getfield 25, 3) := by decide +kernel
theorem d_Ns_enterBlock_26 : decode b_Ns_enterBlock 26 = .ok (.aload_n 0, 1) := by decide +kernel
theorem d_Ns_enterBlock_27 : decode b_Ns_enterBlock 27 = .ok (.getfield 17, 3) := by decide +kernel
theorem d_Ns_enterBlock_30 : decode b_Ns_enterBlock 30 = .ok (.iastore, 1) := by decide +kernel
theorem d_Ns_enterBlock_31 : decode b_Ns_enterBlock 31 = .ok (.return_, 1) := by decide +kernel

set_option maxHeartbeats 4000000 in
set_option maxRecDepth 100000 in
theorem n_enter (l : Launch) (G : nn_G) (tk : Nat → Nat) (sz : Nat) (ad : Nat → Nat) (nc lv : Nat) (ca : Nat → Int32) (hlv : lv < 4) (hnc : nc ≤ 90) (hca : ∀ j, 1 ≤ j → j ≤ lv → ∃ n, n ≤ 90 ∧ ca j = nI n) : Met l y_Ns_enterBlock w_Ns_enterBlock ({ frames := 0, cells := 0, slots := 0, locals := 0 }) (nz_P G tk [.ref (ad 5)] [((ad 5), .inr (5, [.ref (ad 6), .int (nI nc), .ref (ad 7), .int (nI lv)])), ((ad 7), .inl (G.2 0, 5, .inl (ca)))] sz) (va_Qv (fun u : Nat → Int32 => ∀ j, 1 ≤ j → j ≤ lv + 1 → ∃ n, n ≤ 90 ∧ u j = nI n) (fun u t => va_P G.1 nn_cls [((ad 5), .inr (5, [.ref (ad 6), .int (nI nc), .ref (ad 7), .int (nI (lv + 1))])), ((ad 7), .inl (G.2 0, 5, .inl (u)))] t.heap ∧ va_D (va_A [((ad 5), .inr (5, [.ref (ad 6), .int (nI nc), .ref (ad 7), .int (nI lv)])), ((ad 7), .inl (G.2 0, 5, .inl (ca)))] sz) [((ad 5), .inr (5, [.ref (ad 6), .int (nI nc), .ref (ad 7), .int (nI (lv + 1))])), ((ad 7), .inl (G.2 0, 5, .inl (u)))]) (va_A [((ad 5), .inr (5, [.ref (ad 6), .int (nI nc), .ref (ad 7), .int (nI lv)])), ((ad 7), .inl (G.2 0, 5, .inl (ca)))] sz)) 0 0 (va_A [((ad 5), .inr (5, [.ref (ad 6), .int (nI nc), .ref (ad 7), .int (nI lv)])), ((ad 7), .inl (G.2 0, 5, .inl (ca)))] sz) := by
  refine Met.ofW (cc := b_Ns_enterBlock) (maxL := 1) (ret := none) (by decide) rfl ?_
  intro p e s m args below meth c s₁ B hml hv
  obtain ⟨rfl, ⟨hsz, hP, hK, hD0, hN⟩, hE⟩ := hv
  have hx := B.exec
  have hb := B.bytes
  have hr := B.returns
  have hts := atoms_spec (ws := w_Ns_enterBlock) B.pre
  have hg : ∀ w ∈ nn_gw, w.before _ s = true := fun w h => hts w (List.mem_cons_of_mem _ h)
  have hown : s.vm.findClass R_Ns = some m.cls := findClass_of_methodNamed B.named
  have hlocks := B.notSynchronized
  subst hsz
  have hD := hD0.self (sz := s.heap.size)
  generalize hAe : va_A [((ad 5), .inr (5, [.ref (ad 6), .int (nI nc), .ref (ad 7), .int (nI lv)])), ((ad 7), .inl (G.2 0, 5, .inl (ca)))] s.heap.size = A at hD hE ⊢
  have hA : ∀ q : Nat, s.heap.size ≤ q → A q := fun q h => by rw [← hAe]; exact Or.inr h
  have hS : va_S A s.heap s.heap [] := va_S.rf
  have hP : va_P G.1 nn_cls [((ad 5), .inr (5, [.ref (ad 6), .int (nI nc), .ref (ad 7), .int (nI lv)])), ((ad 7), .inl (G.2 0, 5, .inl (ca)))] s.heap := hP
  have hl := lv_entry ([.ref (ad 5)]) (n := 1) (Nat.le_of_ble_eq_true rfl)
  rw [lg_entry_eq]
  generalize (lg_sl ([.ref (ad 5)]) ++ List.replicate (1 - (lg_sl ([.ref (ad 5)])).length) Slot.unset).toArray = ls at hl ⊢
  have hl : lv_has ls 1 [(0, .ref (ad 5))] := hl
  refine lv_aload_n hx hb d_Ns_enterBlock_0 rfl (lv_at hl 0 rfl) ?_
  refine va_get (D := G.1) (ci := 5) (v := .int (nI lv)) (C := R_Ns) (T := T_Ns) (N := 4) hx hb hg in_Ns hown hK hP 0 rfl rfl 3 (by decide) (hg _ mw_190) (fun _ h9 => h9) rfl d_Ns_enterBlock_1 ?_
  refine lv_iconst (v := 4) hx hb d_Ns_enterBlock_4 (by decide) ?_
  refine lv_icmp_ge (tgt := 31) hx hb d_Ns_enterBlock_5 rfl (fun h => absurd h (nI_ge (b := 4) hlv (by decide))) (fun _ => ?_)
  refine lv_aload_n hx hb d_Ns_enterBlock_8 rfl (lv_at hl 0 rfl) ?_
  refine lv_dup hx hb d_Ns_enterBlock_9 rfl ?_
  refine va_get (D := G.1) (ci := 5) (v := .int (nI lv)) (C := R_Ns) (T := T_Ns) (N := 4) hx hb hg in_Ns hown hK hP 0 rfl rfl 3 (by decide) (hg _ mw_190) (fun _ h9 => h9) rfl d_Ns_enterBlock_10 ?_
  refine lv_iconst (v := 1) hx hb d_Ns_enterBlock_13 (by decide) ?_
  refine lv_iadd hx hb d_Ns_enterBlock_14 ?_
  refine nb_top (nI (lv + 1)) (nI_1 lv) ?_
  refine va_put (D := G.1) (ci := 5) (v := .int (nI (lv + 1))) (ty := .int) (C := R_Ns) (T := T_Ns) (N := 4) hx hb hg in_Ns t_Ns ok_Ns nm_Ns hown hK hP hD hS 0 rfl rfl 3 (by decide) (hg _ mw_190) (fun _ h9 => h9) rfl (by decide +kernel) rfl rfl (Nat.le_of_ble_eq_true rfl) d_Ns_enterBlock_15 (fun H locs hP hD hS => ?_)
  have hP : va_P G.1 nn_cls [((ad 5), .inr (5, [.ref (ad 6), .int (nI nc), .ref (ad 7), .int (nI (lv + 1))])), ((ad 7), .inl (G.2 0, 5, .inl (ca)))] H := hP
  have hD : va_D A [((ad 5), .inr (5, [.ref (ad 6), .int (nI nc), .ref (ad 7), .int (nI (lv + 1))])), ((ad 7), .inl (G.2 0, 5, .inl (ca)))] := hD
  refine lv_aload_n hx hb d_Ns_enterBlock_18 rfl (lv_at hl 0 rfl) ?_
  refine va_get (D := G.1) (ci := 5) (v := .ref (ad 7)) (C := R_Ns) (T := T_Ns) (N := 4) hx hb hg in_Ns hown hK hP 0 rfl rfl 2 (by decide) (hg _ mw_189) (fun _ h9 => h9) rfl d_Ns_enterBlock_19 ?_
  refine lv_aload_n hx hb d_Ns_enterBlock_22 rfl (lv_at hl 0 rfl) ?_
  refine va_get (D := G.1) (ci := 5) (v := .int (nI (lv + 1))) (C := R_Ns) (T := T_Ns) (N := 4) hx hb hg in_Ns hown hK hP 0 rfl rfl 3 (by decide) (hg _ mw_190) (fun _ h9 => h9) rfl d_Ns_enterBlock_23 ?_
  refine lv_aload_n hx hb d_Ns_enterBlock_26 rfl (lv_at hl 0 rfl) ?_
  refine va_get (D := G.1) (ci := 5) (v := .int (nI nc)) (C := R_Ns) (T := T_Ns) (N := 4) hx hb hg in_Ns hown hK hP 0 rfl rfl 1 (by decide) (hg _ mw_188) (fun _ h9 => h9) rfl d_Ns_enterBlock_27 ?_
  refine va_iast hx hb hK hP hD hS 1 0 rfl rfl (vp_in_nI (show lv + 1 < 5 by omega) (by decide)) d_Ns_enterBlock_30 (fun H locs hP hD hS => ?_)
  have hP : va_P G.1 nn_cls [((ad 5), .inr (5, [.ref (ad 6), .int (nI nc), .ref (ad 7), .int (nI (lv + 1))])), ((ad 7), .inl (G.2 0, 5, .inl (upd (ca) (nI (lv + 1)).toNatClampNeg (nI nc))))] H := hP
  have hD : va_D A [((ad 5), .inr (5, [.ref (ad 6), .int (nI nc), .ref (ad 7), .int (nI (lv + 1))])), ((ad 7), .inl (G.2 0, 5, .inl (upd (ca) (nI (lv + 1)).toNatClampNeg (nI nc))))] := hD
  refine W.widen (k := 0) (n := 0) (Nat.le_of_ble_eq_true rfl) (Nat.le_of_ble_eq_true rfl) ?_
  have hP9 := hP.sub (ws' := [((ad 5), .inr (5, [.ref (ad 6), .int (nI nc), .ref (ad 7), .int (nI (lv + 1))])), ((ad 7), .inl (G.2 0, 5, .inl (upd (ca) (nI (lv + 1)).toNatClampNeg (nI nc))))]) [0, 1] rfl
  have hD9 := hD.sub (ws' := [((ad 5), .inr (5, [.ref (ad 6), .int (nI nc), .ref (ad 7), .int (nI (lv + 1))])), ((ad 7), .inl (G.2 0, 5, .inl (upd (ca) (nI (lv + 1)).toNatClampNeg (nI nc))))]) [0, 1] (by decide) rfl
  exact W.vret hx hb hr (fun t ht hW => ⟨⟨(upd (ca) (nI (lv + 1)).toNatClampNeg (nI nc)), rfl, nz_cau hlv hnc hca, ⟨by rw [ht]; exact hP9, hD9⟩⟩, hS.F ht⟩) hS.2.2 d_Ns_enterBlock_31

theorem d_Ns_leaveBlock_0 : decode b_Ns_leaveBlock 0 = .ok (.aload_n 0, 1) := by decide +kernel
theorem d_Ns_leaveBlock_1 : decode b_Ns_leaveBlock 1 = .ok (.getfield 25, 3) := by decide +kernel
theorem d_Ns_leaveBlock_4 : decode b_Ns_leaveBlock 4 = .ok (.ifCond .le 26, 3) := by decide +kernel
theorem d_Ns_leaveBlock_7 : decode b_Ns_leaveBlock 7 = .ok (.aload_n 0, 1) := by decide +kernel
theorem d_Ns_leaveBlock_8 : decode b_Ns_leaveBlock 8 = .ok (.aload_n 0, 1) := by decide +kernel
theorem d_Ns_leaveBlock_9 : decode b_Ns_leaveBlock 9 = .ok (.getfield 21, 3) := by decide +kernel
theorem d_Ns_leaveBlock_12 : decode b_Ns_leaveBlock 12 = .ok (.aload_n 0, 1) := by decide +kernel
theorem d_Ns_leaveBlock_13 : decode b_Ns_leaveBlock 13 = .ok (.getfield 25, 3) := by decide +kernel
theorem d_Ns_leaveBlock_16 : decode b_Ns_leaveBlock 16 = .ok (.iaload, 1) := by decide +kernel
theorem d_Ns_leaveBlock_17 : decode b_Ns_leaveBlock 17 = .ok (.putfield 17, 3) := by decide +kernel
theorem d_Ns_leaveBlock_20 : decode b_Ns_leaveBlock 20 = .ok (.aload_n 0, 1) := by decide +kernel
theorem d_Ns_leaveBlock_21 : decode b_Ns_leaveBlock 21 = .ok (.dup, 1) := by decide +kernel
theorem d_Ns_leaveBlock_22 : decode b_Ns_leaveBlock 22 = .ok (.getfield 25, 3) := by decide +kernel
theorem d_Ns_leaveBlock_25 : decode b_Ns_leaveBlock 25 = .ok (.iconst 1, 1) := by decide +kernel
theorem d_Ns_leaveBlock_26 : decode b_Ns_leaveBlock 26 = .ok (.isub, 1) := by decide +kernel
theorem d_Ns_leaveBlock_27 : decode b_Ns_leaveBlock 27 = .ok (.putfield 25, 3) := by decide +kernel
theorem d_Ns_leaveBlock_30 : decode b_Ns_leaveBlock 30 = .ok (.return_, 1) := by decide +kernel

set_option maxHeartbeats 4000000 in
set_option maxRecDepth 100000 in
theorem n_leave (l : Launch) (G : nn_G) (tk : Nat → Nat) (sz : Nat) (ad : Nat → Nat) (nc lv : Nat) (ca : Nat → Int32) (hlv : 1 ≤ lv) (hlv9 : lv ≤ 4) (hca : ∀ j, 1 ≤ j → j ≤ lv → ∃ n, n ≤ 90 ∧ ca j = nI n) : Met l y_Ns_leaveBlock w_Ns_leaveBlock ({ frames := 0, cells := 0, slots := 0, locals := 0 }) (nz_P G tk [.ref (ad 5)] [((ad 5), .inr (5, [.ref (ad 6), .int (nI nc), .ref (ad 7), .int (nI lv)])), ((ad 7), .inl (G.2 0, 5, .inl (ca)))] sz) (va_Qv (fun u : Nat => u ≤ 90) (fun u t => va_P G.1 nn_cls [((ad 5), .inr (5, [.ref (ad 6), .int (nI u), .ref (ad 7), .int (nI (lv - 1))])), ((ad 7), .inl (G.2 0, 5, .inl (ca)))] t.heap ∧ va_D (va_A [((ad 5), .inr (5, [.ref (ad 6), .int (nI nc), .ref (ad 7), .int (nI lv)])), ((ad 7), .inl (G.2 0, 5, .inl (ca)))] sz) [((ad 5), .inr (5, [.ref (ad 6), .int (nI u), .ref (ad 7), .int (nI (lv - 1))])), ((ad 7), .inl (G.2 0, 5, .inl (ca)))]) (va_A [((ad 5), .inr (5, [.ref (ad 6), .int (nI nc), .ref (ad 7), .int (nI lv)])), ((ad 7), .inl (G.2 0, 5, .inl (ca)))] sz)) 0 0 (va_A [((ad 5), .inr (5, [.ref (ad 6), .int (nI nc), .ref (ad 7), .int (nI lv)])), ((ad 7), .inl (G.2 0, 5, .inl (ca)))] sz) := by
  refine Met.ofW (cc := b_Ns_leaveBlock) (maxL := 1) (ret := none) (by decide) rfl ?_
  intro p e s m args below meth c s₁ B hml hv
  obtain ⟨rfl, ⟨hsz, hP, hK, hD0, hN⟩, hE⟩ := hv
  have hx := B.exec
  have hb := B.bytes
  have hr := B.returns
  have hts := atoms_spec (ws := w_Ns_leaveBlock) B.pre
  have hg : ∀ w ∈ nn_gw, w.before _ s = true := fun w h => hts w (List.mem_cons_of_mem _ h)
  have hown : s.vm.findClass R_Ns = some m.cls := findClass_of_methodNamed B.named
  have hlocks := B.notSynchronized
  subst hsz
  have hD := hD0.self (sz := s.heap.size)
  generalize hAe : va_A [((ad 5), .inr (5, [.ref (ad 6), .int (nI nc), .ref (ad 7), .int (nI lv)])), ((ad 7), .inl (G.2 0, 5, .inl (ca)))] s.heap.size = A at hD hE ⊢
  have hA : ∀ q : Nat, s.heap.size ≤ q → A q := fun q h => by rw [← hAe]; exact Or.inr h
  have hS : va_S A s.heap s.heap [] := va_S.rf
  have hP : va_P G.1 nn_cls [((ad 5), .inr (5, [.ref (ad 6), .int (nI nc), .ref (ad 7), .int (nI lv)])), ((ad 7), .inl (G.2 0, 5, .inl (ca)))] s.heap := hP
  have hl := lv_entry ([.ref (ad 5)]) (n := 1) (Nat.le_of_ble_eq_true rfl)
  rw [lg_entry_eq]
  generalize (lg_sl ([.ref (ad 5)]) ++ List.replicate (1 - (lg_sl ([.ref (ad 5)])).length) Slot.unset).toArray = ls at hl ⊢
  have hl : lv_has ls 1 [(0, .ref (ad 5))] := hl
  refine lv_aload_n hx hb d_Ns_leaveBlock_0 rfl (lv_at hl 0 rfl) ?_
  refine va_get (D := G.1) (ci := 5) (v := .int (nI lv)) (C := R_Ns) (T := T_Ns) (N := 4) hx hb hg in_Ns hown hK hP 0 rfl rfl 3 (by decide) (hg _ mw_190) (fun _ h9 => h9) rfl d_Ns_leaveBlock_1 ?_
  refine lv_if_le (tgt := 30) hx hb d_Ns_leaveBlock_4 rfl (fun h => absurd h (nz_pos0 hlv (by omega))) (fun _ => ?_)
  refine lv_aload_n hx hb d_Ns_leaveBlock_7 rfl (lv_at hl 0 rfl) ?_
  refine lv_aload_n hx hb d_Ns_leaveBlock_8 rfl (lv_at hl 0 rfl) ?_
  refine va_get (D := G.1) (ci := 5) (v := .ref (ad 7)) (C := R_Ns) (T := T_Ns) (N := 4) hx hb hg in_Ns hown hK hP 0 rfl rfl 2 (by decide) (hg _ mw_189) (fun _ h9 => h9) rfl d_Ns_leaveBlock_9 ?_
  refine lv_aload_n hx hb d_Ns_leaveBlock_12 rfl (lv_at hl 0 rfl) ?_
  refine va_get (D := G.1) (ci := 5) (v := .int (nI lv)) (C := R_Ns) (T := T_Ns) (N := 4) hx hb hg in_Ns hown hK hP 0 rfl rfl 3 (by decide) (hg _ mw_190) (fun _ h9 => h9) rfl d_Ns_leaveBlock_13 ?_
  refine va_iald hx hb hK hP 1 0 rfl rfl (vp_in_nI (show lv < 5 by omega) (by decide)) d_Ns_leaveBlock_16 ?_
  obtain ⟨nn, hnn, enn⟩ := hca lv hlv (Nat.le_refl _)
  refine nb_top (nI nn) (by rw [nI_clamp (by omega)]; exact enn) ?_
  refine va_put (D := G.1) (ci := 5) (v := .int (nI nn)) (ty := .int) (C := R_Ns) (T := T_Ns) (N := 4) hx hb hg in_Ns t_Ns ok_Ns nm_Ns hown hK hP hD hS 0 rfl rfl 1 (by decide) (hg _ mw_188) (fun _ h9 => h9) rfl (by decide +kernel) rfl rfl (Nat.le_of_ble_eq_true rfl) d_Ns_leaveBlock_17 (fun H locs hP hD hS => ?_)
  have hP : va_P G.1 nn_cls [((ad 5), .inr (5, [.ref (ad 6), .int (nI nn), .ref (ad 7), .int (nI lv)])), ((ad 7), .inl (G.2 0, 5, .inl (ca)))] H := hP
  have hD : va_D A [((ad 5), .inr (5, [.ref (ad 6), .int (nI nn), .ref (ad 7), .int (nI lv)])), ((ad 7), .inl (G.2 0, 5, .inl (ca)))] := hD
  refine lv_aload_n hx hb d_Ns_leaveBlock_20 rfl (lv_at hl 0 rfl) ?_
  refine lv_dup hx hb d_Ns_leaveBlock_21 rfl ?_
  refine va_get (D := G.1) (ci := 5) (v := .int (nI lv)) (C := R_Ns) (T := T_Ns) (N := 4) hx hb hg in_Ns hown hK hP 0 rfl rfl 3 (by decide) (hg _ mw_190) (fun _ h9 => h9) rfl d_Ns_leaveBlock_22 ?_
  refine lv_iconst (v := 1) hx hb d_Ns_leaveBlock_25 (by decide) ?_
  refine lv_isub hx hb d_Ns_leaveBlock_26 ?_
  refine nb_top (nI (lv - 1)) (pk_sub (b := 1) (by omega)) ?_
  refine va_put (D := G.1) (ci := 5) (v := .int (nI (lv - 1))) (ty := .int) (C := R_Ns) (T := T_Ns) (N := 4) hx hb hg in_Ns t_Ns ok_Ns nm_Ns hown hK hP hD hS 0 rfl rfl 3 (by decide) (hg _ mw_190) (fun _ h9 => h9) rfl (by decide +kernel) rfl rfl (Nat.le_of_ble_eq_true rfl) d_Ns_leaveBlock_27 (fun H locs hP hD hS => ?_)
  have hP : va_P G.1 nn_cls [((ad 5), .inr (5, [.ref (ad 6), .int (nI nn), .ref (ad 7), .int (nI (lv - 1))])), ((ad 7), .inl (G.2 0, 5, .inl (ca)))] H := hP
  have hD : va_D A [((ad 5), .inr (5, [.ref (ad 6), .int (nI nn), .ref (ad 7), .int (nI (lv - 1))])), ((ad 7), .inl (G.2 0, 5, .inl (ca)))] := hD
  refine W.widen (k := 0) (n := 0) (Nat.le_of_ble_eq_true rfl) (Nat.le_of_ble_eq_true rfl) ?_
  have hP9 := hP.sub (ws' := [((ad 5), .inr (5, [.ref (ad 6), .int (nI nn), .ref (ad 7), .int (nI (lv - 1))])), ((ad 7), .inl (G.2 0, 5, .inl (ca)))]) [0, 1] rfl
  have hD9 := hD.sub (ws' := [((ad 5), .inr (5, [.ref (ad 6), .int (nI nn), .ref (ad 7), .int (nI (lv - 1))])), ((ad 7), .inl (G.2 0, 5, .inl (ca)))]) [0, 1] (by decide) rfl
  exact W.vret hx hb hr (fun t ht hW => ⟨⟨nn, rfl, hnn, ⟨by rw [ht]; exact hP9, hD9⟩⟩, hS.F ht⟩) hS.2.2 d_Ns_leaveBlock_30

theorem mw_187 : (.fieldLink R_Ns 13 R_Ns "declared" "[LNestPascal$Name;" : Cond) ∈ nn_gw := nn_at 187 (by decide +kernel) (by decide +kernel)
theorem d_Ns_find_0 : decode b_Ns_find 0 = .ok (.aload_n 0, 1) := by decide +kernel
theorem d_Ns_find_1 : decode b_Ns_find 1 = .ok (.getfield 17, 3) := by decide +kernel
theorem d_Ns_find_4 : decode b_Ns_find 4 = .ok (.iconst 1, 1) := by decide +kernel
theorem d_Ns_find_5 : decode b_Ns_find 5 = .ok (.isub, 1) := by decide +kernel
theorem d_Ns_find_6 : decode b_Ns_find 6 = .ok (.istore_n 2, 1) := by decide +kernel
theorem d_Ns_find_7 : decode b_Ns_find 7 = .ok (.iload_n 2, 1) := by decide +kernel
theorem d_Ns_find_8 : decode b_Ns_find 8 = .ok (.ifCond .lt 29, 3) := by decide +kernel
theorem d_Ns_find_11 : decode b_Ns_find 11 = .ok (.aload_n 0, 1) := by decide +kernel
theorem d_Ns_find_12 : decode b_Ns_find 12 = .ok (.getfield 13, 3) := by decide +kernel
theorem d_Ns_find_15 : decode b_Ns_find 15 = .ok (.iload_n 2, 1) := by decide +kernel
theorem d_Ns_find_16 : decode b_Ns_find 16 = .ok (.aaload, 1) := by decide +kernel
theorem d_Ns_find_17 : decode b_Ns_find 17 = .ok (.getfield 29, 3) := by decide +kernel
theorem d_Ns_find_20 : decode b_Ns_find 20 = .ok (.iload_n 1, 1) := by decide +kernel
theorem d_Ns_find_21 : decode b_Ns_find 21 = .ok (.if_icmp .ne 10, 3) := by decide +kernel
theorem d_Ns_find_24 : decode b_Ns_find 24 = .ok (.aload_n 0, 1) := by decide +kernel
theorem d_Ns_find_25 : decode b_Ns_find 25 = .ok (.getfield 13, 3) := by decide +kernel
theorem d_Ns_find_28 : decode b_Ns_find 28 = .ok (.iload_n 2, 1) := by decide +kernel
theorem d_Ns_find_29 : decode b_Ns_find 29 = .ok (.aaload, 1) := by decide +kernel
theorem d_Ns_find_30 : decode b_Ns_find 30 = .ok (.areturn, 1) := by decide +kernel
theorem d_Ns_find_31 : decode b_Ns_find 31 = .ok (.iinc 2 (-1), 3) := by decide +kernel
theorem d_Ns_find_34 : decode b_Ns_find 34 = .ok (.goto (-27), 3) := by decide +kernel
theorem d_Ns_find_37 : decode b_Ns_find 37 = .ok (.aconst_null, 1) := by decide +kernel
theorem d_Ns_find_38 : decode b_Ns_find 38 = .ok (.areturn, 1) := by decide +kernel

set_option maxHeartbeats 4000000 in
set_option maxRecDepth 100000 in
theorem n_find (l : Launch) (G : nn_G) (tk : Nat → Nat) (sz : Nat) (ad dn : Nat → Nat) (L : List Nat) (nc lv : Nat) (pf : Nat → Nat → Int32) (hL : ∀ j, j < 90 → dn j ∈ L) (hnc : nc ≤ 90) (x : Int32) : Met l y_Ns_find w_Ns_find ({ frames := 0, cells := 0, slots := 0, locals := 0 }) (nz_PR G tk [.ref (ad 5), .int x] ([((ad 5), .inr (5, [.ref (ad 6), .int (nI nc), .ref (ad 7), .int (nI lv)])), ((ad 6), .inl (G.2 4, 90, .inr (.inr (.inr (.inr (fun j => some (dn j)))))))] ++ nz_pl L pf) sz) (va_Sr (fun k => k = 0 ∨ ∃ a, a ∈ L ∧ k = a + 1) nz_on) 0 0 (fun _ => False) := by
  refine Met.ofW (cc := b_Ns_find) (maxL := 3) (ret := some (.object "NestPascal$Name")) (by decide) rfl ?_
  intro p e s m args below meth c s₁ B hml hv
  obtain ⟨rfl, ⟨hsz, hP, hK, hD0, hN⟩, hE⟩ := hv
  have hx := B.exec
  have hb := B.bytes
  have hr := B.returns
  have hts := atoms_spec (ws := w_Ns_find) B.pre
  have hg : ∀ w ∈ nn_gw, w.before _ s = true := fun w h => hts w (List.mem_cons_of_mem _ h)
  have hown : s.vm.findClass R_Ns = some m.cls := findClass_of_methodNamed B.named
  have hlocks := B.notSynchronized
  subst hsz
  have hD := hD0
  generalize hAe : (fun _ : Nat => True) = A at hD
  have hA : ∀ q : Nat, s.heap.size ≤ q → A q := fun q h => by rw [← hAe]; trivial
  have hSE : va_S (fun _ => False) s.heap s.heap [] := va_S.rf
  have hS : va_S A s.heap s.heap [] := va_S.rf
  have hP : va_P G.1 nn_cls ([((ad 5), .inr (5, [.ref (ad 6), .int (nI nc), .ref (ad 7), .int (nI lv)])), ((ad 6), .inl (G.2 4, 90, .inr (.inr (.inr (.inr (fun j => some (dn j)))))))] ++ nz_pl L pf) s.heap := hP
  have hl := lv_entry ([.ref (ad 5), .int x]) (n := 3) (Nat.le_of_ble_eq_true rfl)
  rw [lg_entry_eq]
  generalize (lg_sl ([.ref (ad 5), .int x]) ++ List.replicate (3 - (lg_sl ([.ref (ad 5), .int x])).length) Slot.unset).toArray = ls at hl ⊢
  have hl : lv_has ls 3 [(0, .ref (ad 5)), (1, .int x)] := hl
  refine lv_aload_n hx hb d_Ns_find_0 rfl (lv_at hl 0 rfl) ?_
  refine va_get (D := G.1) (ci := 5) (v := .int (nI nc)) (C := R_Ns) (T := T_Ns) (N := 4) hx hb hg in_Ns hown hK hP 0 rfl rfl 1 (by decide) (hg _ mw_188) (fun _ h9 => h9) rfl d_Ns_find_1 ?_
  refine lv_iconst (v := 1) hx hb d_Ns_find_4 (by decide) ?_
  refine lv_isub hx hb d_Ns_find_5 ?_
  refine nb_top (nI nc + (-1)) (nz_sm _) ?_
  refine lv_istore_n (lv' := [(2, .int (nI nc + (-1))), (0, .ref (ad 5)), (1, .int x)]) hx hb d_Ns_find_6 rfl hl (by decide) rfl (fun ls hl => ?_)
  have hl := lv_sub (l' := [(2, .int (nI nc + (-1))), (0, .ref (ad 5)), (1, .int x)]) hl [0, 1, 2] rfl
  suffices loop : ∀ (j : Nat)  (ls : Array Slot), j ≤ nc → lv_has ls 3 [(2, .int (nI j + (-1))), (0, .ref (ad 5)), (1, .int x)] → W p l e (headSpec w_Ns_find ({ frames := 0, cells := 0, slots := 0, locals := 0 })).room s m [.ref (ad 5), .int x].toArray below meth c s.heap [] 0 0 (MQ below (va_Sr (fun k => k = 0 ∨ ∃ a, a ∈ L ∧ k = a + 1) nz_on) [.ref (ad 5), .int x].toArray s 0 0 (fun _ => False)) (F0 m 7 ls []) by
    exact loop nc  ls (Nat.le_refl _) hl
  intro j
  induction j with
  | zero =>
    intro  ls hj hl
    rw [show nI 0 + (-1) = (-1 : Int32) by decide] at hl
    refine lv_iload_n hx hb d_Ns_find_7 rfl (lv_at hl 0 rfl) ?_
    refine lv_if_lt (tgt := 37) hx hb d_Ns_find_8 rfl (fun _ => ?_) (fun h => absurd (by decide) h)
    refine lv_null hx hb d_Ns_find_37 ?_
    exact W.aret (v := .null) hx hb hr (Or.inl ⟨_, rfl⟩) (Or.inl rfl) (fun t ht hW => ⟨0, rfl, Or.inl rfl, ht⟩) (fun q h => by cases h) d_Ns_find_38
  | succ j ih =>
    intro  ls hj hl
    rw [nz_m1 j] at hl
    refine lv_iload_n hx hb d_Ns_find_7 rfl (lv_at hl 0 rfl) ?_
    refine lv_if_lt (tgt := 37) hx hb d_Ns_find_8 rfl (fun h => absurd h (nI_pos (by omega))) (fun _ => ?_)
    refine lv_aload_n hx hb d_Ns_find_11 rfl (lv_at hl 1 rfl) ?_
    refine va_get (D := G.1) (ci := 5) (v := .ref (ad 6)) (C := R_Ns) (T := T_Ns) (N := 4) hx hb hg in_Ns hown hK hP 0 rfl rfl 0 (by decide) (hg _ mw_187) (fun _ h9 => h9) rfl d_Ns_find_12 ?_
    refine lv_iload_n hx hb d_Ns_find_15 rfl (lv_at hl 0 rfl) ?_
    refine va_aldq hx hb hK hP 1 4 rfl rfl (vp_in_nI (show j < 90 by omega) (by decide)) d_Ns_find_16 ?_
    refine nb_topv (.ref (dn j)) (by rw [nI_clamp (by omega)]; rfl) ?_
    refine nz_getn hx hb hg hown hK hP (hL _ (show j < 90 by omega)) 0 (by decide) rfl (nz_l0 hE) d_Ns_find_17 (fun z2 => ?_)
    refine lv_iload_n hx hb d_Ns_find_20 rfl (lv_at hl 2 rfl) ?_
    refine lv_icmp_ne (tgt := 31) hx hb d_Ns_find_21 rfl (fun hc21 => ?_) (fun hc21 => ?_)
    · skip
      refine lv_iinc (k := 0) (v := nI j + (-1)) (lv' := [(2, .int (nI j + (-1))), (0, .ref (ad 5)), (1, .int x)]) hx hb d_Ns_find_31 hl rfl (by rw [show Int32.ofInt (-1) = (-1 : Int32) by decide]) (by decide) rfl (fun ls hl => ?_)
      refine lv_goto (tgt := 7) hx hb d_Ns_find_34 rfl ?_
      have hl := lv_sub (l' := [(2, .int (nI j + (-1))), (0, .ref (ad 5)), (1, .int x)]) hl [0, 1, 2] rfl
      exact ih  ls (by omega) hl
    · skip
      refine lv_aload_n hx hb d_Ns_find_24 rfl (lv_at hl 1 rfl) ?_
      refine va_get (D := G.1) (ci := 5) (v := .ref (ad 6)) (C := R_Ns) (T := T_Ns) (N := 4) hx hb hg in_Ns hown hK hP 0 rfl rfl 0 (by decide) (hg _ mw_187) (fun _ h9 => h9) rfl d_Ns_find_25 ?_
      refine lv_iload_n hx hb d_Ns_find_28 rfl (lv_at hl 0 rfl) ?_
      refine va_aldq hx hb hK hP 1 4 rfl rfl (vp_in_nI (show j < 90 by omega) (by decide)) d_Ns_find_29 ?_
      refine nb_topv (.ref (dn j)) (by rw [nI_clamp (by omega)]; rfl) ?_
      exact W.aret (v := .ref (dn j)) hx hb hr (Or.inl ⟨_, rfl⟩) (Or.inr ⟨_, rfl⟩) (fun t ht hW => ⟨(dn j) + 1, rfl, Or.inr ⟨_, hL _ (show j < 90 by omega), rfl⟩, ht⟩) (fun q h => by cases h) d_Ns_find_30

theorem mw_90 : (.initialized R_Ns : Cond) ∈ nn_gw := nn_at 90 (by decide +kernel) (by decide +kernel)
theorem mw_614 : (.methodLink R_Ns 32 y_Ns_find : Cond) ∈ nn_gw := nn_at 614 (by decide +kernel) (by decide +kernel)
theorem mw_615 : (.instanceMethod y_Ns_find : Cond) ∈ nn_gw := nn_at 615 (by decide +kernel) (by decide +kernel)
theorem mw_616 : (.selects R_Ns y_Ns_find y_Ns_find : Cond) ∈ nn_gw := nn_at 616 (by decide +kernel) (by decide +kernel)
theorem mw_617 : (.code y_Ns_find b_Ns_find 3 (some (.object "NestPascal$Name")) : Cond) ∈ nn_gw := nn_at 617 (by decide +kernel) (by decide +kernel)
theorem d_Ns_isDeclaredHere_0 : decode b_Ns_isDeclaredHere 0 = .ok (.aload_n 0, 1) := by decide +kernel
theorem d_Ns_isDeclaredHere_1 : decode b_Ns_isDeclaredHere 1 = .ok (.iload_n 1, 1) := by decide +kernel
theorem d_Ns_isDeclaredHere_2 : decode b_Ns_isDeclaredHere 2 = .ok (.invokevirtual 32, 3) := by decide +kernel
theorem d_Ns_isDeclaredHere_5 : decode b_Ns_isDeclaredHere 5 = .ok (.astore_n 2, 1) := by decide +kernel
theorem d_Ns_isDeclaredHere_6 : decode b_Ns_isDeclaredHere 6 = .ok (.aload_n 2, 1) := by decide +kernel
theorem d_Ns_isDeclaredHere_7 : decode b_Ns_isDeclaredHere 7 = .ok (.ifnull 18, 3) := by decide +kernel
theorem d_Ns_isDeclaredHere_10 : decode b_Ns_isDeclaredHere 10 = .ok (.aload_n 2, 1) := by decide +kernel
theorem d_Ns_isDeclaredHere_11 : decode b_Ns_isDeclaredHere 11 = .ok (.getfield 36, 3) := by decide +kernel
theorem d_Ns_isDeclaredHere_14 : decode b_Ns_isDeclaredHere 14 = .ok (.aload_n 0, 1) := by decide +kernel
theorem d_Ns_isDeclaredHere_15 : decode b_Ns_isDeclaredHere 15 = .ok (.getfield 25, 3) := by decide +kernel
theorem d_Ns_isDeclaredHere_18 : decode b_Ns_isDeclaredHere 18 = .ok (.if_icmp .ne 7, 3) := by decide +kernel
theorem d_Ns_isDeclaredHere_21 : decode b_Ns_isDeclaredHere 21 = .ok (.iconst 1, 1) := by decide +kernel
theorem d_Ns_isDeclaredHere_22 : decode b_Ns_isDeclaredHere 22 = .ok (.goto 4, 3) := by decide +kernel
theorem d_Ns_isDeclaredHere_25 : decode b_Ns_isDeclaredHere 25 = .ok (.iconst 0, 1) := by decide +kernel
theorem d_Ns_isDeclaredHere_26 : decode b_Ns_isDeclaredHere 26 = .ok (.ireturn, 1) := by decide +kernel

set_option maxHeartbeats 4000000 in
set_option maxRecDepth 100000 in
theorem n_isDeclaredHere (l : Launch) (G : nn_G) (tk : Nat → Nat) (sz : Nat) (ad dn : Nat → Nat) (L : List Nat) (nc lv : Nat) (pf : Nat → Nat → Int32) (hL : ∀ j, j < 90 → dn j ∈ L) (hnc : nc ≤ 90) (x : Int32) : Met l y_Ns_isDeclaredHere w_Ns_isDeclaredHere ({ frames := 1, cells := 0, slots := 0, locals := 22 }) (nz_PR G tk [.ref (ad 5), .int x] ([((ad 5), .inr (5, [.ref (ad 6), .int (nI nc), .ref (ad 7), .int (nI lv)])), ((ad 6), .inl (G.2 4, 90, .inr (.inr (.inr (.inr (fun j => some (dn j)))))))] ++ nz_pl L pf) sz) (vp_Si (fun r => True)) 0 0 (fun _ => False) := by
  refine Met.ofW (cc := b_Ns_isDeclaredHere) (maxL := 3) (ret := some .boolean) (by decide) rfl ?_
  intro p e s m args below meth c s₁ B hml hv
  obtain ⟨rfl, ⟨hsz, hP, hK, hD0, hN⟩, hE⟩ := hv
  have hx := B.exec
  have hb := B.bytes
  have hr := B.returns
  have hts := atoms_spec (ws := w_Ns_isDeclaredHere) B.pre
  have hg : ∀ w ∈ nn_gw, w.before _ s = true := fun w h => hts w (List.mem_cons_of_mem _ h)
  have hown : s.vm.findClass R_Ns = some m.cls := findClass_of_methodNamed B.named
  have hlocks := B.notSynchronized
  subst hsz
  have hD := hD0
  generalize hAe : (fun _ : Nat => True) = A at hD
  have hA : ∀ q : Nat, s.heap.size ≤ q → A q := fun q h => by rw [← hAe]; trivial
  have hSE : va_S (fun _ => False) s.heap s.heap [] := va_S.rf
  have hS : va_S A s.heap s.heap [] := va_S.rf
  have hP : va_P G.1 nn_cls ([((ad 5), .inr (5, [.ref (ad 6), .int (nI nc), .ref (ad 7), .int (nI lv)])), ((ad 6), .inl (G.2 4, 90, .inr (.inr (.inr (.inr (fun j => some (dn j)))))))] ++ nz_pl L pf) s.heap := hP
  have hl := lv_entry ([.ref (ad 5), .int x]) (n := 3) (Nat.le_of_ble_eq_true rfl)
  rw [lg_entry_eq]
  generalize (lg_sl ([.ref (ad 5), .int x]) ++ List.replicate (3 - (lg_sl ([.ref (ad 5), .int x])).length) Slot.unset).toArray = ls at hl ⊢
  have hl : lv_has ls 3 [(0, .ref (ad 5)), (1, .int x)] := hl
  refine lv_aload_n hx hb d_Ns_isDeclaredHere_0 rfl (lv_at hl 0 rfl) ?_
  refine lv_iload_n hx hb d_Ns_isDeclaredHere_1 rfl (lv_at hl 1 rfl) ?_
  have hPc := hP.part (cx := [((ad 5), .inr (5, [.ref (ad 6), .int (nI nc), .ref (ad 7), .int (nI lv)])), ((ad 6), .inl (G.2 4, 90, .inr (.inr (.inr (.inr (fun j => some (dn j)))))))]) [0, 1] rfl
  have hDc := hD.part (cx := [((ad 5), .inr (5, [.ref (ad 6), .int (nI nc), .ref (ad 7), .int (nI lv)])), ((ad 6), .inl (G.2 4, 90, .inr (.inr (.inr (.inr (fun j => some (dn j)))))))]) [0, 1] (by decide) rfl
  refine va_csr (va_Run.run (va_runV (As := [.int x]) (rest := []) ⟨hx, hb, hml, hown, hts⟩ (n_find l G tk _ ad dn L nc lv pf hL hnc x) (cwV 1 hts (nn_gV mw_617 mw_614 mw_615 mw_616 mw_90) rfl rfl rfl (by decide +kernel) ⟨Nat.le_of_ble_eq_true rfl, Nat.le_of_ble_eq_true rfl⟩) (nz_preVR (va_recv hK hP rfl (q0 := 0) rfl) hPc hDc hK hN hE hSE) rfl rfl hl.1 rfl (lv_room (Nat.le_of_ble_eq_true rfl)) d_Ns_isDeclaredHere_2 ⟨(Nat.le_of_ble_eq_true rfl), (Nat.le_of_ble_eq_true rfl)⟩)) (fun r1 er1 => ?_)
  rcases er1 with rfl | ⟨nmr1, hmr1, rfl⟩
  · skip
    refine lv_astore_nN (lv' := [(2, .null), (0, .ref (ad 5)), (1, .int x)]) hx hb d_Ns_isDeclaredHere_5 rfl hl (by decide) rfl (fun ls hl => ?_)
    refine lv_aload_nN hx hb d_Ns_isDeclaredHere_6 rfl (lv_at hl 0 rfl) ?_
    refine lv_ifnullN (tgt := 25) hx hb d_Ns_isDeclaredHere_7 rfl ?_
    refine lv_iconst (v := 0) hx hb d_Ns_isDeclaredHere_25 (by decide) ?_
    exact W.zret (v := 0) hx hb hr (by first | rfl | rfl) (fun t ht hW => ⟨0, rfl, trivial, ht⟩) (fun q h => by cases h) d_Ns_isDeclaredHere_26
  · skip
    refine lv_astore_n (lv' := [(2, .ref nmr1), (0, .ref (ad 5)), (1, .int x)]) hx hb d_Ns_isDeclaredHere_5 rfl hl (by decide) rfl (fun ls hl => ?_)
    refine lv_aload_n hx hb d_Ns_isDeclaredHere_6 rfl (lv_at hl 0 rfl) ?_
    refine lv_ifnull hx hb d_Ns_isDeclaredHere_7 ?_
    refine lv_aload_n hx hb d_Ns_isDeclaredHere_10 rfl (lv_at hl 0 rfl) ?_
    refine nz_getn hx hb hg hown hK hP hmr1 2 (by decide) rfl (nz_l3 hE) d_Ns_isDeclaredHere_11 (fun z2 => ?_)
    refine lv_aload_n hx hb d_Ns_isDeclaredHere_14 rfl (lv_at hl 1 rfl) ?_
    refine va_get (D := G.1) (ci := 5) (v := .int (nI lv)) (C := R_Ns) (T := T_Ns) (N := 4) hx hb hg in_Ns hown hK hP 0 rfl rfl 3 (by decide) (hg _ mw_190) (fun _ h9 => h9) rfl d_Ns_isDeclaredHere_15 ?_
    refine lv_icmp_ne (tgt := 25) hx hb d_Ns_isDeclaredHere_18 rfl (fun hc18 => ?_) (fun hc18 => ?_)
    · skip
      refine lv_iconst (v := 0) hx hb d_Ns_isDeclaredHere_25 (by decide) ?_
      exact W.zret (v := 0) hx hb hr (by first | rfl | rfl) (fun t ht hW => ⟨0, rfl, trivial, ht⟩) (fun q h => by cases h) d_Ns_isDeclaredHere_26
    · skip
      refine lv_iconst (v := 1) hx hb d_Ns_isDeclaredHere_21 (by decide) ?_
      refine lv_goto (tgt := 26) hx hb d_Ns_isDeclaredHere_22 rfl ?_
      exact W.zret (v := 1) hx hb hr (by first | rfl | rfl) (fun t ht hW => ⟨1, rfl, trivial, ht⟩) (fun q h => by cases h) d_Ns_isDeclaredHere_26

theorem mw_622 : (.methodLink R_Ns 37 y_Mt_min : Cond) ∈ nn_gw := nn_at 622 (by decide +kernel) (by decide +kernel)
theorem mw_623 : (.static y_Mt_min : Cond) ∈ nn_gw := nn_at 623 (by decide +kernel) (by decide +kernel)
theorem mw_624 : (.code y_Mt_min b_Mt_min 2 (some .int) : Cond) ∈ nn_gw := nn_at 624 (by decide +kernel) (by decide +kernel)
theorem d_Ns_declare_0 : decode b_Ns_declare 0 = .ok (.aload_n 0, 1) := by decide +kernel
theorem d_Ns_declare_1 : decode b_Ns_declare 1 = .ok (.getfield 13, 3) := by decide +kernel
theorem d_Ns_declare_4 : decode b_Ns_declare 4 = .ok (.aload_n 0, 1) := by decide +kernel
theorem d_Ns_declare_5 : decode b_Ns_declare 5 = .ok (.getfield 17, 3) := by decide +kernel
theorem d_Ns_declare_8 : decode b_Ns_declare 8 = .ok (.bipush 89, 2) := by decide +kernel
theorem d_Ns_declare_10 : decode b_Ns_declare 10 = .ok (.invokestatic 37, 3) := by decide +kernel
theorem d_Ns_declare_13 : decode b_Ns_declare 13 = .ok (.aaload, 1) := by decide +kernel
theorem d_Ns_declare_14 : decode b_Ns_declare 14 = .ok (.astore 4, 2) := by decide +kernel
theorem d_Ns_declare_16 : decode b_Ns_declare 16 = .ok (.aload_n 0, 1) := by decide +kernel
theorem d_Ns_declare_17 : decode b_Ns_declare 17 = .ok (.aload_n 0, 1) := by decide +kernel
theorem d_Ns_declare_18 : decode b_Ns_declare 18 = .ok (.getfield 17, 3) := by decide +kernel
theorem d_Ns_declare_21 : decode b_Ns_declare 21 = .ok (.iconst 1, 1) := by decide +kernel
theorem d_Ns_declare_22 : decode b_Ns_declare 22 = .ok (.iadd, 1) := by decide +kernel
theorem d_Ns_declare_23 : decode b_Ns_declare 23 = .ok (.bipush 90, 2) := by decide +kernel
theorem d_Ns_declare_25 : decode b_Ns_declare 25 = .ok (.invokestatic 37, 3) := by decide +kernel
theorem d_Ns_declare_28 : decode b_Ns_declare 28 = .ok (.putfield 17, 3) := by decide +kernel
theorem d_Ns_declare_31 : decode b_Ns_declare 31 = .ok (.aload 4, 2) := by decide +kernel
theorem d_Ns_declare_33 : decode b_Ns_declare 33 = .ok (.iload_n 1, 1) := by decide +kernel
theorem d_Ns_declare_34 : decode b_Ns_declare 34 = .ok (.putfield 29, 3) := by decide +kernel
theorem d_Ns_declare_37 : decode b_Ns_declare 37 = .ok (.aload 4, 2) := by decide +kernel
theorem d_Ns_declare_39 : decode b_Ns_declare 39 = .ok (.iload_n 2, 1) := by decide +kernel
theorem d_Ns_declare_40 : decode b_Ns_declare 40 = .ok (.putfield 43, 3) := by decide +kernel
theorem d_Ns_declare_43 : decode b_Ns_declare 43 = .ok (.aload 4, 2) := by decide +kernel
theorem d_Ns_declare_45 : decode b_Ns_declare 45 = .ok (.aload_n 0, 1) := by decide +kernel
theorem d_Ns_declare_46 : decode b_Ns_declare 46 = .ok (.getfield 25, 3) := by decide +kernel
theorem d_Ns_declare_49 : decode b_Ns_declare 49 = .ok (.putfield 36, 3) := by decide +kernel
theorem d_Ns_declare_52 : decode b_Ns_declare 52 = .ok (.aload 4, 2) := by decide +kernel
theorem d_Ns_declare_54 : decode b_Ns_declare 54 = .ok (.iload_n 3, 1) := by decide +kernel
theorem d_Ns_declare_55 : decode b_Ns_declare 55 = .ok (.putfield 46, 3) := by decide +kernel
theorem d_Ns_declare_58 : decode b_Ns_declare 58 = .ok (.aload 4, 2) := by decide +kernel
theorem d_Ns_declare_60 : decode b_Ns_declare 60 = .ok (.iconst 0, 1) := by decide +kernel
theorem d_Ns_declare_61 : decode b_Ns_declare 61 = .ok (.putfield 49, 3) := by decide +kernel
theorem d_Ns_declare_64 : decode b_Ns_declare 64 = .ok (.aload 4, 2) := by decide +kernel
theorem d_Ns_declare_66 : decode b_Ns_declare 66 = .ok (.areturn, 1) := by decide +kernel

set_option maxHeartbeats 4000000 in
set_option maxRecDepth 100000 in
theorem n_declare (l : Launch) (G : nn_G) (tk : Nat → Nat) (sz : Nat) (ad dn : Nat → Nat) (L : List Nat) (nc lv : Nat) (pf : Nat → Nat → Int32) (hL : ∀ j, j < 90 → dn j ∈ L) (hnc : nc ≤ 90) (x y z : Int32) : Met l y_Ns_declare w_Ns_declare ({ frames := 1, cells := 0, slots := 0, locals := 14 }) (nz_P G tk [.ref (ad 5), .int x, .int y, .int z] ([((ad 5), .inr (5, [.ref (ad 6), .int (nI nc), .ref (ad 7), .int (nI lv)])), ((ad 6), .inl (G.2 4, 90, .inr (.inr (.inr (.inr (fun j => some (dn j)))))))] ++ nz_pl L pf) sz) (va_Qr (fun u : Nat × (Nat → Nat → Int32) => u.1 ≤ 90) (fun u ra t => ra ∈ L ∧ va_P G.1 nn_cls ([((ad 5), .inr (5, [.ref (ad 6), .int (nI u.1), .ref (ad 7), .int (nI lv)])), ((ad 6), .inl (G.2 4, 90, .inr (.inr (.inr (.inr (fun j => some (dn j)))))))] ++ nz_pl L u.2) t.heap ∧ va_D (va_A ([((ad 5), .inr (5, [.ref (ad 6), .int (nI nc), .ref (ad 7), .int (nI lv)])), ((ad 6), .inl (G.2 4, 90, .inr (.inr (.inr (.inr (fun j => some (dn j)))))))] ++ nz_pl L pf) sz) ([((ad 5), .inr (5, [.ref (ad 6), .int (nI u.1), .ref (ad 7), .int (nI lv)])), ((ad 6), .inl (G.2 4, 90, .inr (.inr (.inr (.inr (fun j => some (dn j)))))))] ++ nz_pl L u.2)) (va_A ([((ad 5), .inr (5, [.ref (ad 6), .int (nI nc), .ref (ad 7), .int (nI lv)])), ((ad 6), .inl (G.2 4, 90, .inr (.inr (.inr (.inr (fun j => some (dn j)))))))] ++ nz_pl L pf) sz)) 0 0 (va_A ([((ad 5), .inr (5, [.ref (ad 6), .int (nI nc), .ref (ad 7), .int (nI lv)])), ((ad 6), .inl (G.2 4, 90, .inr (.inr (.inr (.inr (fun j => some (dn j)))))))] ++ nz_pl L pf) sz) := by
  refine Met.ofW (cc := b_Ns_declare) (maxL := 5) (ret := some (.object "NestPascal$Name")) (by decide) rfl ?_
  intro p e s m args below meth c s₁ B hml hv
  obtain ⟨rfl, ⟨hsz, hP, hK, hD0, hN⟩, hE⟩ := hv
  have hx := B.exec
  have hb := B.bytes
  have hr := B.returns
  have hts := atoms_spec (ws := w_Ns_declare) B.pre
  have hg : ∀ w ∈ nn_gw, w.before _ s = true := fun w h => hts w (List.mem_cons_of_mem _ h)
  have hown : s.vm.findClass R_Ns = some m.cls := findClass_of_methodNamed B.named
  have hlocks := B.notSynchronized
  subst hsz
  have hD := hD0.self (sz := s.heap.size)
  generalize hAe : va_A ([((ad 5), .inr (5, [.ref (ad 6), .int (nI nc), .ref (ad 7), .int (nI lv)])), ((ad 6), .inl (G.2 4, 90, .inr (.inr (.inr (.inr (fun j => some (dn j)))))))] ++ nz_pl L pf) s.heap.size = A at hD hE ⊢
  have hA : ∀ q : Nat, s.heap.size ≤ q → A q := fun q h => by rw [← hAe]; exact Or.inr h
  have hS : va_S A s.heap s.heap [] := va_S.rf
  have hP : va_P G.1 nn_cls ([((ad 5), .inr (5, [.ref (ad 6), .int (nI nc), .ref (ad 7), .int (nI lv)])), ((ad 6), .inl (G.2 4, 90, .inr (.inr (.inr (.inr (fun j => some (dn j)))))))] ++ nz_pl L pf) s.heap := hP
  have hl := lv_entry ([.ref (ad 5), .int x, .int y, .int z]) (n := 5) (Nat.le_of_ble_eq_true rfl)
  rw [lg_entry_eq]
  generalize (lg_sl ([.ref (ad 5), .int x, .int y, .int z]) ++ List.replicate (5 - (lg_sl ([.ref (ad 5), .int x, .int y, .int z])).length) Slot.unset).toArray = ls at hl ⊢
  have hl : lv_has ls 5 [(0, .ref (ad 5)), (1, .int x), (2, .int y), (3, .int z)] := hl
  refine lv_aload_n hx hb d_Ns_declare_0 rfl (lv_at hl 0 rfl) ?_
  refine va_get (D := G.1) (ci := 5) (v := .ref (ad 6)) (C := R_Ns) (T := T_Ns) (N := 4) hx hb hg in_Ns hown hK hP 0 rfl rfl 0 (by decide) (hg _ mw_187) (fun _ h9 => h9) rfl d_Ns_declare_1 ?_
  refine lv_aload_n hx hb d_Ns_declare_4 rfl (lv_at hl 0 rfl) ?_
  refine va_get (D := G.1) (ci := 5) (v := .int (nI nc)) (C := R_Ns) (T := T_Ns) (N := 4) hx hb hg in_Ns hown hK hP 0 rfl rfl 1 (by decide) (hg _ mw_188) (fun _ h9 => h9) rfl d_Ns_declare_5 ?_
  refine lv_bipush (v := 89) hx hb d_Ns_declare_8 (by decide) ?_
  refine va_mmin hx hb (hml.trans hl.1.symm) hown (hg _ mw_622) (hg _ mw_623) (hg _ mw_101) (hg _ mw_624) (Nat.le_of_ble_eq_true rfl) (Nat.le_of_ble_eq_true rfl) (Nat.zero_le _) (Nat.zero_le _) d_Ns_declare_10 ?_
  refine nb_top (nI (min (nc) 89)) (nz_min (a := nc) (b := 89) (by omega) (by decide)) ?_
  refine va_aldq hx hb hK hP 1 4 rfl rfl (vp_in_nI (show min (nc) 89 < 90 by omega) (by decide)) d_Ns_declare_13 ?_
  refine nb_topv (.ref (dn (min (nc) 89))) (by rw [nI_clamp (by omega)]; rfl) ?_
  refine lv_astore (lv' := [(4, .ref (dn (min (nc) 89))), (0, .ref (ad 5)), (1, .int x), (2, .int y), (3, .int z)]) hx hb d_Ns_declare_14 hl (by decide) rfl (fun ls hl => ?_)
  refine lv_aload_n hx hb d_Ns_declare_16 rfl (lv_at hl 1 rfl) ?_
  refine lv_aload_n hx hb d_Ns_declare_17 rfl (lv_at hl 1 rfl) ?_
  refine va_get (D := G.1) (ci := 5) (v := .int (nI nc)) (C := R_Ns) (T := T_Ns) (N := 4) hx hb hg in_Ns hown hK hP 0 rfl rfl 1 (by decide) (hg _ mw_188) (fun _ h9 => h9) rfl d_Ns_declare_18 ?_
  refine lv_iconst (v := 1) hx hb d_Ns_declare_21 (by decide) ?_
  refine lv_iadd hx hb d_Ns_declare_22 ?_
  refine nb_top (nI (nc + 1)) (nI_1 nc) ?_
  refine lv_bipush (v := 90) hx hb d_Ns_declare_23 (by decide) ?_
  refine va_mmin hx hb (hml.trans hl.1.symm) hown (hg _ mw_622) (hg _ mw_623) (hg _ mw_101) (hg _ mw_624) (Nat.le_of_ble_eq_true rfl) (Nat.le_of_ble_eq_true rfl) (Nat.zero_le _) (Nat.zero_le _) d_Ns_declare_25 ?_
  refine nb_top (nI (min (nc + 1) 90)) (nz_min (a := nc + 1) (b := 90) (by omega) (by decide)) ?_
  refine va_put (D := G.1) (ci := 5) (v := .int (nI (min (nc + 1) 90))) (ty := .int) (C := R_Ns) (T := T_Ns) (N := 4) hx hb hg in_Ns t_Ns ok_Ns nm_Ns hown hK hP hD hS 0 rfl rfl 1 (by decide) (hg _ mw_188) (fun _ h9 => h9) rfl (by decide +kernel) rfl rfl (Nat.le_of_ble_eq_true rfl) d_Ns_declare_28 (fun H locs hP hD hS => ?_)
  have hP : va_P G.1 nn_cls ([((ad 5), .inr (5, [.ref (ad 6), .int (nI (min (nc + 1) 90)), .ref (ad 7), .int (nI lv)])), ((ad 6), .inl (G.2 4, 90, .inr (.inr (.inr (.inr (fun j => some (dn j)))))))] ++ nz_pl L pf) H := hP
  have hD : va_D A ([((ad 5), .inr (5, [.ref (ad 6), .int (nI (min (nc + 1) 90)), .ref (ad 7), .int (nI lv)])), ((ad 6), .inl (G.2 4, 90, .inr (.inr (.inr (.inr (fun j => some (dn j)))))))] ++ nz_pl L pf) := hD
  refine lv_aload hx hb d_Ns_declare_31 (lv_at hl 0 rfl) ?_
  refine lv_iload_n hx hb d_Ns_declare_33 rfl (lv_at hl 2 rfl) ?_
  refine nz_putn hx hb hg hown hK hP hD hS (hL _ (show min (nc) 89 < 90 by omega)) 0 (by decide) rfl (nz_l0 hE) d_Ns_declare_34 (fun pf2 H locs hP hD hS => ?_)
  have hP : va_P G.1 nn_cls ([((ad 5), .inr (5, [.ref (ad 6), .int (nI (min (nc + 1) 90)), .ref (ad 7), .int (nI lv)])), ((ad 6), .inl (G.2 4, 90, .inr (.inr (.inr (.inr (fun j => some (dn j)))))))] ++ nz_pl L pf2) H := hP
  have hD : va_D A ([((ad 5), .inr (5, [.ref (ad 6), .int (nI (min (nc + 1) 90)), .ref (ad 7), .int (nI lv)])), ((ad 6), .inl (G.2 4, 90, .inr (.inr (.inr (.inr (fun j => some (dn j)))))))] ++ nz_pl L pf2) := hD
  refine lv_aload hx hb d_Ns_declare_37 (lv_at hl 0 rfl) ?_
  refine lv_iload_n hx hb d_Ns_declare_39 rfl (lv_at hl 3 rfl) ?_
  refine nz_putn hx hb hg hown hK hP hD hS (hL _ (show min (nc) 89 < 90 by omega)) 1 (by decide) rfl (nz_l2 hE) d_Ns_declare_40 (fun pf3 H locs hP hD hS => ?_)
  have hP : va_P G.1 nn_cls ([((ad 5), .inr (5, [.ref (ad 6), .int (nI (min (nc + 1) 90)), .ref (ad 7), .int (nI lv)])), ((ad 6), .inl (G.2 4, 90, .inr (.inr (.inr (.inr (fun j => some (dn j)))))))] ++ nz_pl L pf3) H := hP
  have hD : va_D A ([((ad 5), .inr (5, [.ref (ad 6), .int (nI (min (nc + 1) 90)), .ref (ad 7), .int (nI lv)])), ((ad 6), .inl (G.2 4, 90, .inr (.inr (.inr (.inr (fun j => some (dn j)))))))] ++ nz_pl L pf3) := hD
  refine lv_aload hx hb d_Ns_declare_43 (lv_at hl 0 rfl) ?_
  refine lv_aload_n hx hb d_Ns_declare_45 rfl (lv_at hl 1 rfl) ?_
  refine va_get (D := G.1) (ci := 5) (v := .int (nI lv)) (C := R_Ns) (T := T_Ns) (N := 4) hx hb hg in_Ns hown hK hP 0 rfl rfl 3 (by decide) (hg _ mw_190) (fun _ h9 => h9) rfl d_Ns_declare_46 ?_
  refine nz_putn hx hb hg hown hK hP hD hS (hL _ (show min (nc) 89 < 90 by omega)) 2 (by decide) rfl (nz_l3 hE) d_Ns_declare_49 (fun pf4 H locs hP hD hS => ?_)
  have hP : va_P G.1 nn_cls ([((ad 5), .inr (5, [.ref (ad 6), .int (nI (min (nc + 1) 90)), .ref (ad 7), .int (nI lv)])), ((ad 6), .inl (G.2 4, 90, .inr (.inr (.inr (.inr (fun j => some (dn j)))))))] ++ nz_pl L pf4) H := hP
  have hD : va_D A ([((ad 5), .inr (5, [.ref (ad 6), .int (nI (min (nc + 1) 90)), .ref (ad 7), .int (nI lv)])), ((ad 6), .inl (G.2 4, 90, .inr (.inr (.inr (.inr (fun j => some (dn j)))))))] ++ nz_pl L pf4) := hD
  refine lv_aload hx hb d_Ns_declare_52 (lv_at hl 0 rfl) ?_
  refine lv_iload_n hx hb d_Ns_declare_54 rfl (lv_at hl 4 rfl) ?_
  refine nz_putn hx hb hg hown hK hP hD hS (hL _ (show min (nc) 89 < 90 by omega)) 3 (by decide) rfl (nz_l5 hE) d_Ns_declare_55 (fun pf5 H locs hP hD hS => ?_)
  have hP : va_P G.1 nn_cls ([((ad 5), .inr (5, [.ref (ad 6), .int (nI (min (nc + 1) 90)), .ref (ad 7), .int (nI lv)])), ((ad 6), .inl (G.2 4, 90, .inr (.inr (.inr (.inr (fun j => some (dn j)))))))] ++ nz_pl L pf5) H := hP
  have hD : va_D A ([((ad 5), .inr (5, [.ref (ad 6), .int (nI (min (nc + 1) 90)), .ref (ad 7), .int (nI lv)])), ((ad 6), .inl (G.2 4, 90, .inr (.inr (.inr (.inr (fun j => some (dn j)))))))] ++ nz_pl L pf5) := hD
  refine lv_aload hx hb d_Ns_declare_58 (lv_at hl 0 rfl) ?_
  refine lv_iconst (v := 0) hx hb d_Ns_declare_60 (by decide) ?_
  refine nz_putn hx hb hg hown hK hP hD hS (hL _ (show min (nc) 89 < 90 by omega)) 4 (by decide) rfl (nz_l8 hE) d_Ns_declare_61 (fun pf6 H locs hP hD hS => ?_)
  have hP : va_P G.1 nn_cls ([((ad 5), .inr (5, [.ref (ad 6), .int (nI (min (nc + 1) 90)), .ref (ad 7), .int (nI lv)])), ((ad 6), .inl (G.2 4, 90, .inr (.inr (.inr (.inr (fun j => some (dn j)))))))] ++ nz_pl L pf6) H := hP
  have hD : va_D A ([((ad 5), .inr (5, [.ref (ad 6), .int (nI (min (nc + 1) 90)), .ref (ad 7), .int (nI lv)])), ((ad 6), .inl (G.2 4, 90, .inr (.inr (.inr (.inr (fun j => some (dn j)))))))] ++ nz_pl L pf6) := hD
  refine lv_aload hx hb d_Ns_declare_64 (lv_at hl 0 rfl) ?_
  refine W.widen (k := 0) (n := 0) (Nat.le_of_ble_eq_true rfl) (Nat.le_of_ble_eq_true rfl) ?_
  have hP9 := hP.part (cx := [((ad 5), .inr (5, [.ref (ad 6), .int (nI (min (nc + 1) 90)), .ref (ad 7), .int (nI lv)])), ((ad 6), .inl (G.2 4, 90, .inr (.inr (.inr (.inr (fun j => some (dn j)))))))]) [0, 1] rfl
  have hD9 := hD.part (cx := [((ad 5), .inr (5, [.ref (ad 6), .int (nI (min (nc + 1) 90)), .ref (ad 7), .int (nI lv)])), ((ad 6), .inl (G.2 4, 90, .inr (.inr (.inr (.inr (fun j => some (dn j)))))))]) [0, 1] (by decide) rfl
  exact W.aret (v := .ref (dn (min (nc) 89))) hx hb hr (Or.inl ⟨_, rfl⟩) (Or.inr ⟨_, rfl⟩) (fun t ht hW => ⟨⟨(min (nc + 1) 90, pf6), (dn (min (nc) 89)), rfl, (show min (nc + 1) 90 ≤ 90 by omega), ⟨hL _ (by omega), ⟨by rw [ht]; exact hP9, hD9⟩⟩⟩, hS.F ht⟩) hS.2.2 d_Ns_declare_66

theorem d_Ns_placeParameters_0 : decode b_Ns_placeParameters 0 = .ok (.iconst 1, 1) := by decide +kernel
theorem d_Ns_placeParameters_1 : decode b_Ns_placeParameters 1 = .ok (.istore_n 2, 1) := by decide +kernel
theorem d_Ns_placeParameters_2 : decode b_Ns_placeParameters 2 = .ok (.iload_n 2, 1) := by decide +kernel
theorem d_Ns_placeParameters_3 : decode b_Ns_placeParameters 3 = .ok (.iload_n 1, 1) := by decide +kernel
theorem d_Ns_placeParameters_4 : decode b_Ns_placeParameters 4 = .ok (.if_icmp .gt 33, 3) := by decide +kernel
theorem d_Ns_placeParameters_7 : decode b_Ns_placeParameters 7 = .ok (.iload_n 2, 1) := by decide +kernel
theorem d_Ns_placeParameters_8 : decode b_Ns_placeParameters 8 = .ok (.aload_n 0, 1) := by decide +kernel
theorem d_Ns_placeParameters_9 : decode b_Ns_placeParameters 9 = .ok (.getfield 17, 3) := by decide +kernel
theorem d_Ns_placeParameters_12 : decode b_Ns_placeParameters 12 = .ok (.if_icmp .gt 25, 3) := by decide +kernel
theorem d_Ns_placeParameters_15 : decode b_Ns_placeParameters 15 = .ok (.aload_n 0, 1) := by decide +kernel
theorem d_Ns_placeParameters_16 : decode b_Ns_placeParameters 16 = .ok (.getfield 13, 3) := by decide +kernel
theorem d_Ns_placeParameters_19 : decode b_Ns_placeParameters 19 = .ok (.aload_n 0, 1) := by decide +kernel
theorem d_Ns_placeParameters_20 : decode b_Ns_placeParameters 20 = .ok (.getfield 17, 3) := by decide +kernel
theorem d_Ns_placeParameters_23 : decode b_Ns_placeParameters 23 = .ok (.iload_n 2, 1) := by decide +kernel
theorem d_Ns_placeParameters_24 : decode b_Ns_placeParameters 24 = .ok (.isub, 1) := by decide +kernel
theorem d_Ns_placeParameters_25 : decode b_Ns_placeParameters 25 = .ok (.aaload, 1) := by decide +kernel
theorem d_Ns_placeParameters_26 : decode b_Ns_placeParameters 26 = .ok (.iload_n 2, 1) := by decide +kernel
theorem d_Ns_placeParameters_27 : decode b_Ns_placeParameters 27 = .ok (.ineg, 1) := by decide +kernel
theorem d_Ns_placeParameters_28 : decode b_Ns_placeParameters 28 = .ok (.putfield 46, 3) := by decide +kernel
theorem d_Ns_placeParameters_31 : decode b_Ns_placeParameters 31 = .ok (.iinc 2 1, 3) := by decide +kernel
theorem d_Ns_placeParameters_34 : decode b_Ns_placeParameters 34 = .ok (.goto (-32), 3) := by decide +kernel
theorem d_Ns_placeParameters_37 : decode b_Ns_placeParameters 37 = .ok (.return_, 1) := by decide +kernel

set_option maxHeartbeats 4000000 in
set_option maxRecDepth 100000 in
theorem n_place (l : Launch) (G : nn_G) (tk : Nat → Nat) (sz : Nat) (ad dn : Nat → Nat) (L : List Nat) (nc lv : Nat) (pf : Nat → Nat → Int32) (hL : ∀ j, j < 90 → dn j ∈ L) (hnc : nc ≤ 90) (mm : Nat) (hm : mm ≤ 3) : Met l y_Ns_placeParameters w_Ns_placeParameters ({ frames := 0, cells := 0, slots := 0, locals := 0 }) (nz_P G tk [.ref (ad 5), .int (nI mm)] ([((ad 5), .inr (5, [.ref (ad 6), .int (nI nc), .ref (ad 7), .int (nI lv)])), ((ad 6), .inl (G.2 4, 90, .inr (.inr (.inr (.inr (fun j => some (dn j)))))))] ++ nz_pl L pf) sz) (va_Qv (fun u : Nat → Nat → Int32 => True) (fun u t => va_P G.1 nn_cls ([((ad 5), .inr (5, [.ref (ad 6), .int (nI nc), .ref (ad 7), .int (nI lv)])), ((ad 6), .inl (G.2 4, 90, .inr (.inr (.inr (.inr (fun j => some (dn j)))))))] ++ nz_pl L u) t.heap ∧ va_D (va_A ([((ad 5), .inr (5, [.ref (ad 6), .int (nI nc), .ref (ad 7), .int (nI lv)])), ((ad 6), .inl (G.2 4, 90, .inr (.inr (.inr (.inr (fun j => some (dn j)))))))] ++ nz_pl L pf) sz) ([((ad 5), .inr (5, [.ref (ad 6), .int (nI nc), .ref (ad 7), .int (nI lv)])), ((ad 6), .inl (G.2 4, 90, .inr (.inr (.inr (.inr (fun j => some (dn j)))))))] ++ nz_pl L u)) (va_A ([((ad 5), .inr (5, [.ref (ad 6), .int (nI nc), .ref (ad 7), .int (nI lv)])), ((ad 6), .inl (G.2 4, 90, .inr (.inr (.inr (.inr (fun j => some (dn j)))))))] ++ nz_pl L pf) sz)) 0 0 (va_A ([((ad 5), .inr (5, [.ref (ad 6), .int (nI nc), .ref (ad 7), .int (nI lv)])), ((ad 6), .inl (G.2 4, 90, .inr (.inr (.inr (.inr (fun j => some (dn j)))))))] ++ nz_pl L pf) sz) := by
  refine Met.ofW (cc := b_Ns_placeParameters) (maxL := 3) (ret := none) (by decide) rfl ?_
  intro p e s m args below meth c s₁ B hml hv
  obtain ⟨rfl, ⟨hsz, hP, hK, hD0, hN⟩, hE⟩ := hv
  have hx := B.exec
  have hb := B.bytes
  have hr := B.returns
  have hts := atoms_spec (ws := w_Ns_placeParameters) B.pre
  have hg : ∀ w ∈ nn_gw, w.before _ s = true := fun w h => hts w (List.mem_cons_of_mem _ h)
  have hown : s.vm.findClass R_Ns = some m.cls := findClass_of_methodNamed B.named
  have hlocks := B.notSynchronized
  subst hsz
  have hD := hD0.self (sz := s.heap.size)
  generalize hAe : va_A ([((ad 5), .inr (5, [.ref (ad 6), .int (nI nc), .ref (ad 7), .int (nI lv)])), ((ad 6), .inl (G.2 4, 90, .inr (.inr (.inr (.inr (fun j => some (dn j)))))))] ++ nz_pl L pf) s.heap.size = A at hD hE ⊢
  have hA : ∀ q : Nat, s.heap.size ≤ q → A q := fun q h => by rw [← hAe]; exact Or.inr h
  have hS : va_S A s.heap s.heap [] := va_S.rf
  have hP : va_P G.1 nn_cls ([((ad 5), .inr (5, [.ref (ad 6), .int (nI nc), .ref (ad 7), .int (nI lv)])), ((ad 6), .inl (G.2 4, 90, .inr (.inr (.inr (.inr (fun j => some (dn j)))))))] ++ nz_pl L pf) s.heap := hP
  have hl := lv_entry ([.ref (ad 5), .int (nI mm)]) (n := 3) (Nat.le_of_ble_eq_true rfl)
  rw [lg_entry_eq]
  generalize (lg_sl ([.ref (ad 5), .int (nI mm)]) ++ List.replicate (3 - (lg_sl ([.ref (ad 5), .int (nI mm)])).length) Slot.unset).toArray = ls at hl ⊢
  have hl : lv_has ls 3 [(0, .ref (ad 5)), (1, .int (nI mm))] := hl
  refine lv_iconst (v := 1) hx hb d_Ns_placeParameters_0 (by decide) ?_
  refine lv_istore_n (lv' := [(2, .int 1), (0, .ref (ad 5)), (1, .int (nI mm))]) hx hb d_Ns_placeParameters_1 rfl hl (by decide) rfl (fun ls hl => ?_)
  have hl := lv_sub (l' := [(2, .int 1), (0, .ref (ad 5)), (1, .int (nI mm))]) hl [0, 1, 2] rfl
  have hP := hP.part (cx := [((ad 5), .inr (5, [.ref (ad 6), .int (nI nc), .ref (ad 7), .int (nI lv)])), ((ad 6), .inl (G.2 4, 90, .inr (.inr (.inr (.inr (fun j => some (dn j)))))))]) [0, 1] rfl
  have hD := hD.part (cx := [((ad 5), .inr (5, [.ref (ad 6), .int (nI nc), .ref (ad 7), .int (nI lv)])), ((ad 6), .inl (G.2 4, 90, .inr (.inr (.inr (.inr (fun j => some (dn j)))))))]) [0, 1] (by decide) rfl
  suffices loop : ∀ (j : Nat) (i : Nat) (pf1 : Nat → Nat → Int32) (ls : Array Slot) (H : Heap) (locs : List Loc), i + j = mm + 1 → 1 ≤ i → lv_has ls 3 [(2, .int (nI i)), (0, .ref (ad 5)), (1, .int (nI mm))] → va_P G.1 nn_cls ([((ad 5), .inr (5, [.ref (ad 6), .int (nI nc), .ref (ad 7), .int (nI lv)])), ((ad 6), .inl (G.2 4, 90, .inr (.inr (.inr (.inr (fun j => some (dn j)))))))] ++ nz_pl L pf1) H → va_D A ([((ad 5), .inr (5, [.ref (ad 6), .int (nI nc), .ref (ad 7), .int (nI lv)])), ((ad 6), .inl (G.2 4, 90, .inr (.inr (.inr (.inr (fun j => some (dn j)))))))] ++ nz_pl L pf1) → va_S A s.heap H locs → W p l e (headSpec w_Ns_placeParameters ({ frames := 0, cells := 0, slots := 0, locals := 0 })).room s m [.ref (ad 5), .int (nI mm)].toArray below meth c H locs 0 0 (MQ below (va_Qv (fun u : Nat → Nat → Int32 => True) (fun u t => va_P G.1 nn_cls ([((ad 5), .inr (5, [.ref (ad 6), .int (nI nc), .ref (ad 7), .int (nI lv)])), ((ad 6), .inl (G.2 4, 90, .inr (.inr (.inr (.inr (fun j => some (dn j)))))))] ++ nz_pl L u) t.heap ∧ va_D A ([((ad 5), .inr (5, [.ref (ad 6), .int (nI nc), .ref (ad 7), .int (nI lv)])), ((ad 6), .inl (G.2 4, 90, .inr (.inr (.inr (.inr (fun j => some (dn j)))))))] ++ nz_pl L u)) A) [.ref (ad 5), .int (nI mm)].toArray s 0 0 A) (F0 m 2 ls []) by
    exact loop mm 1 pf ls _ _ (by omega) (by omega) hl hP hD hS
  intro j
  induction j with
  | zero =>
    intro i pf1 ls H locs hij hi1 hl hP hD hS
    refine lv_iload_n hx hb d_Ns_placeParameters_2 rfl (lv_at hl 0 rfl) ?_
    refine lv_iload_n hx hb d_Ns_placeParameters_3 rfl (lv_at hl 2 rfl) ?_
    refine lv_icmp_gt (tgt := 37) hx hb d_Ns_placeParameters_4 rfl (fun _ => ?_) (fun h => absurd (nI_lt (by omega) (by omega)) h)
    refine W.widen (k := 0) (n := 0) (Nat.le_of_ble_eq_true rfl) (Nat.le_of_ble_eq_true rfl) ?_
    have hP9 := hP.part (cx := [((ad 5), .inr (5, [.ref (ad 6), .int (nI nc), .ref (ad 7), .int (nI lv)])), ((ad 6), .inl (G.2 4, 90, .inr (.inr (.inr (.inr (fun j => some (dn j)))))))]) [0, 1] rfl
    have hD9 := hD.part (cx := [((ad 5), .inr (5, [.ref (ad 6), .int (nI nc), .ref (ad 7), .int (nI lv)])), ((ad 6), .inl (G.2 4, 90, .inr (.inr (.inr (.inr (fun j => some (dn j)))))))]) [0, 1] (by decide) rfl
    exact W.vret hx hb hr (fun t ht hW => ⟨⟨pf1, rfl, trivial, ⟨by rw [ht]; exact hP9, hD9⟩⟩, hS.F ht⟩) hS.2.2 d_Ns_placeParameters_37
  | succ j ih =>
    intro i pf1 ls H locs hij hi1 hl hP hD hS
    refine lv_iload_n hx hb d_Ns_placeParameters_2 rfl (lv_at hl 0 rfl) ?_
    refine lv_iload_n hx hb d_Ns_placeParameters_3 rfl (lv_at hl 2 rfl) ?_
    refine lv_icmp_gt (tgt := 37) hx hb d_Ns_placeParameters_4 rfl (fun h => absurd h (fun q => absurd ((nI_ltI (by omega) (by omega)).mp q) (by omega))) (fun _ => ?_)
    refine lv_iload_n hx hb d_Ns_placeParameters_7 rfl (lv_at hl 0 rfl) ?_
    refine lv_aload_n hx hb d_Ns_placeParameters_8 rfl (lv_at hl 1 rfl) ?_
    refine va_get (D := G.1) (ci := 5) (v := .int (nI nc)) (C := R_Ns) (T := T_Ns) (N := 4) hx hb hg in_Ns hown hK hP 0 rfl rfl 1 (by decide) (hg _ mw_188) (fun _ h9 => h9) rfl d_Ns_placeParameters_9 ?_
    refine lv_icmp_gt (tgt := 37) hx hb d_Ns_placeParameters_12 rfl (fun hc12 => ?_) (fun hc12 => ?_)
    · skip
      refine W.widen (k := 0) (n := 0) (Nat.le_of_ble_eq_true rfl) (Nat.le_of_ble_eq_true rfl) ?_
      have hP9 := hP.part (cx := [((ad 5), .inr (5, [.ref (ad 6), .int (nI nc), .ref (ad 7), .int (nI lv)])), ((ad 6), .inl (G.2 4, 90, .inr (.inr (.inr (.inr (fun j => some (dn j)))))))]) [0, 1] rfl
      have hD9 := hD.part (cx := [((ad 5), .inr (5, [.ref (ad 6), .int (nI nc), .ref (ad 7), .int (nI lv)])), ((ad 6), .inl (G.2 4, 90, .inr (.inr (.inr (.inr (fun j => some (dn j)))))))]) [0, 1] (by decide) rfl
      exact W.vret hx hb hr (fun t ht hW => ⟨⟨pf1, rfl, trivial, ⟨by rw [ht]; exact hP9, hD9⟩⟩, hS.F ht⟩) hS.2.2 d_Ns_placeParameters_37
    · skip
      refine lv_aload_n hx hb d_Ns_placeParameters_15 rfl (lv_at hl 1 rfl) ?_
      refine va_get (D := G.1) (ci := 5) (v := .ref (ad 6)) (C := R_Ns) (T := T_Ns) (N := 4) hx hb hg in_Ns hown hK hP 0 rfl rfl 0 (by decide) (hg _ mw_187) (fun _ h9 => h9) rfl d_Ns_placeParameters_16 ?_
      refine lv_aload_n hx hb d_Ns_placeParameters_19 rfl (lv_at hl 1 rfl) ?_
      refine va_get (D := G.1) (ci := 5) (v := .int (nI nc)) (C := R_Ns) (T := T_Ns) (N := 4) hx hb hg in_Ns hown hK hP 0 rfl rfl 1 (by decide) (hg _ mw_188) (fun _ h9 => h9) rfl d_Ns_placeParameters_20 ?_
      refine lv_iload_n hx hb d_Ns_placeParameters_23 rfl (lv_at hl 0 rfl) ?_
      refine lv_isub hx hb d_Ns_placeParameters_24 ?_
      refine nb_top (nI (nc - i)) (pk_sub (nz_nlt hc12 (by omega))) ?_
      refine va_aldq hx hb hK hP 1 4 rfl rfl (vp_in_nI (show nc - i < 90 by omega) (by decide)) d_Ns_placeParameters_25 ?_
      refine nb_topv (.ref (dn (nc - i))) (by rw [nI_clamp (by omega)]; rfl) ?_
      refine lv_iload_n hx hb d_Ns_placeParameters_26 rfl (lv_at hl 0 rfl) ?_
      refine lv_ineg hx hb d_Ns_placeParameters_27 ?_
      refine nz_putn hx hb hg hown hK hP hD hS (hL _ (show nc - i < 90 by omega)) 3 (by decide) rfl (nz_l5 hE) d_Ns_placeParameters_28 (fun pf2 H locs hP hD hS => ?_)
      have hP : va_P G.1 nn_cls ([((ad 5), .inr (5, [.ref (ad 6), .int (nI nc), .ref (ad 7), .int (nI lv)])), ((ad 6), .inl (G.2 4, 90, .inr (.inr (.inr (.inr (fun j => some (dn j)))))))] ++ nz_pl L pf2) H := hP
      have hD : va_D A ([((ad 5), .inr (5, [.ref (ad 6), .int (nI nc), .ref (ad 7), .int (nI lv)])), ((ad 6), .inl (G.2 4, 90, .inr (.inr (.inr (.inr (fun j => some (dn j)))))))] ++ nz_pl L pf2) := hD
      refine lv_iinc (k := 0) (v := nI (i + 1)) (lv' := [(2, .int (nI (i + 1))), (0, .ref (ad 5)), (1, .int (nI mm))]) hx hb d_Ns_placeParameters_31 hl rfl ((nI_succ i).symm) (by decide) rfl (fun ls hl => ?_)
      refine lv_goto (tgt := 2) hx hb d_Ns_placeParameters_34 rfl ?_
      have hl := lv_sub (l' := [(2, .int (nI (i + 1))), (0, .ref (ad 5)), (1, .int (nI mm))]) hl [0, 1, 2] rfl
      have hP := hP.part (cx := [((ad 5), .inr (5, [.ref (ad 6), .int (nI nc), .ref (ad 7), .int (nI lv)])), ((ad 6), .inl (G.2 4, 90, .inr (.inr (.inr (.inr (fun j => some (dn j)))))))]) [0, 1] rfl
      have hD := hD.part (cx := [((ad 5), .inr (5, [.ref (ad 6), .int (nI nc), .ref (ad 7), .int (nI lv)])), ((ad 6), .inl (G.2 4, 90, .inr (.inr (.inr (.inr (fun j => some (dn j)))))))]) [0, 1] (by decide) rfl
      exact ih (i + 1) pf2 ls H locs (by omega) (by omega) hl hP hD hS
