/-! contracts (by wip/p1/gen.py) -/
/-! names of the JDK's methods here -/
def R_St : String := "java/lang/String"
def R_Sl : String := "java/lang/StringLatin1"
def R_Pr : String := "jdk/internal/util/Preconditions"
def R_En : String := "java/lang/Enum"
abbrev b_En_ordinal : ByteArray := prog_12_method_2_code
def y_En_ordinal : MethodName := ⟨R_En, "ordinal", "()I"⟩
abbrev w_En_ordinal : List Cond := .code y_En_ordinal b_En_ordinal 1 (some .int) :: nn_gw
abbrev b_Pr_checkIndex : ByteArray := prog_23_method_11_code
def y_Pr_checkIndex : MethodName := ⟨R_Pr, "checkIndex", "(IILjava/util/function/BiFunction;)I"⟩
abbrev w_Pr_checkIndex : List Cond := .code y_Pr_checkIndex b_Pr_checkIndex 3 (some .int) :: nn_gw
abbrev b_Sl_charAt : ByteArray := prog_18_method_2_code
def y_Sl_charAt : MethodName := ⟨R_Sl, "charAt", "([BI)C"⟩
abbrev w_Sl_charAt : List Cond := .code y_Sl_charAt b_Sl_charAt 2 (some .char) :: nn_gw
abbrev b_St_charAt : ByteArray := prog_17_method_56_code
def y_St_charAt : MethodName := ⟨R_St, "charAt", "(I)C"⟩
abbrev w_St_charAt : List Cond := .code y_St_charAt b_St_charAt 2 (some .char) :: nn_gw
abbrev b_St_checkIndex : ByteArray := prog_17_method_155_code
def y_St_checkIndex : MethodName := ⟨R_St, "checkIndex", "(II)V"⟩
abbrev w_St_checkIndex : List Cond := .code y_St_checkIndex b_St_checkIndex 2 none :: nn_gw
abbrev b_St_coder : ByteArray := prog_17_method_152_code
def y_St_coder : MethodName := ⟨R_St, "coder", "()B"⟩
abbrev w_St_coder : List Cond := .code y_St_coder b_St_coder 1 (some .byte) :: nn_gw
abbrev b_St_isLatin1 : ByteArray := prog_17_method_154_code
def y_St_isLatin1 : MethodName := ⟨R_St, "isLatin1", "()Z"⟩
abbrev w_St_isLatin1 : List Cond := .code y_St_isLatin1 b_St_isLatin1 1 (some .boolean) :: nn_gw
abbrev b_St_length : ByteArray := prog_17_method_54_code
def y_St_length : MethodName := ⟨R_St, "length", "()I"⟩
abbrev w_St_length : List Cond := .code y_St_length b_St_length 1 (some .int) :: nn_gw
theorem nz_shr (x : Int32) : x >>> ((0 : Int32) &&& 31) = x := by rw [show ((0 : Int32) &&& 31) = 0 by decide]; simp
def nz_on (k : Nat) : Value := match k with | 0 => .null | a + 1 => .ref a
theorem nz_gU {c1 c2 : Cond} {own C owner : String} {idx : Nat} {x y : MethodName} (h : c2 ∈ nn_gw) (h1 : Cond.methodLink own idx x ∈ nn_gw) (h2 : Cond.sameMethod x.cls owner x.name x.desc ∈ nn_gw) (h3 : Cond.selects C x y ∈ nn_gw) (h4 : Cond.instanceMethod y ∈ nn_gw) (h5 : Cond.initialized y.cls ∈ nn_gw) : GoodIn (c1 :: nn_gw) (va_wsU own idx C owner x y (c2 :: nn_gw)) := by
  intro w hw
  unfold va_wsU at hw
  rcases List.mem_append.mp hw with q | q
  · simp only [List.mem_cons, List.not_mem_nil, or_false] at q
    rcases q with rfl | rfl | rfl | rfl | rfl
    · exact nn_g1 h1
    · exact nn_g1 h2
    · exact nn_g1 h3
    · exact nn_g1 h4
    · exact nn_g1 h5
  · exact nn_gd h w q
theorem nz_narc (x : Int32) : narrow .char (.int ((x.toUInt32 % 65536).toInt32)) = .int ((x.toUInt32 % 65536).toInt32) := by
  have h : ∀ y : UInt32, y % 65536 % 65536 = y % 65536 := fun y => UInt32.toNat_inj.mp (by simp [UInt32.toNat_mod])
  simp [narrow, h]
theorem nz_nle {a b : Nat} (h : ¬ nI b ≤ nI a) (ha : a < 2 ^ 31) : a < b := Nat.not_le.mp (fun q => h (nI_le q ha))
theorem nz_max {a b : Nat} (h : b ≤ a) (ha : a < 2 ^ 31) : (if nI a < nI b then nI b else nI a) = nI a := by
  have h1 : ¬ nI a < nI b := fun q => absurd ((nI_ltI ha (by omega)).mp q) (by omega)
  rw [if_neg h1]
theorem nz_inj {a b : Nat} (h : nI a = nI b) (ha : a < 2 ^ 31) (hb : b < 2 ^ 31) : a = b := by
  have := congrArg Int32.toNatClampNeg h
  rw [nI_clamp ha, nI_clamp hb] at this
  exact this
section NZT
variable {p : Program} {l : Launch} {e : Env} {R : Room} {s : State} {m : MethodId} {args : Array Value} {below : List Frame} {meth : Method} {c : Code} {H : Heap} {locs : List Loc} {cells slots : Nat} {Q : State → Prop}
theorem nb_topv {pc : Nat} {ls : Array Slot} {rest : List Value} {x : Value} (v : Value) (h : x = v) (k : W p l e R s m args below meth c H locs cells slots Q (F0 m pc ls (v :: rest))) : W p l e R s m args below meth c H locs cells slots Q (F0 m pc ls (x :: rest)) := h ▸ k
end NZT
theorem nz_add (a b : Nat) : nI a + nI b = nI (a + b) := nI_add a b

theorem mw_447 : (.fieldLink R_St 38 R_St "COMPACT_STRINGS" "Z" : Cond) ∈ nn_gw := nn_at 447 (by decide +kernel) (by decide +kernel)
theorem mw_1234 : (.fieldLink R_St 15 R_St "coder" "B" : Cond) ∈ nn_gw := nn_at 1234 (by decide +kernel) (by decide +kernel)
theorem d_St_coder_0 : decode b_St_coder 0 = .ok (.getstatic 38, 3) := by decide +kernel
theorem d_St_coder_3 : decode b_St_coder 3 = .ok (.ifCond .eq 10, 3) := by decide +kernel
theorem d_St_coder_6 : decode b_St_coder 6 = .ok (.aload_n 0, 1) := by decide +kernel
theorem d_St_coder_7 : decode b_St_coder 7 = .ok (.getfield 15, 3) := by decide +kernel
theorem d_St_coder_10 : decode b_St_coder 10 = .ok (.goto 4, 3) := by decide +kernel
theorem d_St_coder_14 : decode b_St_coder 14 = .ok (.ireturn, 1) := by decide +kernel

set_option maxHeartbeats 4000000 in
set_option maxRecDepth 100000 in
theorem s_coder (l : Launch) (G : nn_G) (tk : Nat → Nat) (sz : Nat) (k : Nat) (hk : k < 31) : Met l y_St_coder w_St_coder ({ frames := 0, cells := 0, slots := 0, locals := 0 }) (nz_PR G tk [.ref (tk (31 + k))] [] sz) (vp_Si (fun r => r = 0)) 0 0 (fun _ => False) := by
  refine Met.ofW (cc := b_St_coder) (maxL := 1) (ret := some .byte) (by decide) rfl ?_
  intro p e s m args below meth c s₁ B hml hv
  obtain ⟨rfl, ⟨hsz, hP, hK, hD0, hN⟩, hE⟩ := hv
  have hx := B.exec
  have hb := B.bytes
  have hr := B.returns
  have hts := atoms_spec (ws := w_St_coder) B.pre
  have hg : ∀ w ∈ nn_gw, w.before _ s = true := fun w h => hts w (List.mem_cons_of_mem _ h)
  have hown : s.vm.findClass R_St = some m.cls := findClass_of_methodNamed B.named
  have hlocks := B.notSynchronized
  subst hsz
  have hD := hD0
  generalize hAe : (fun _ : Nat => True) = A at hD
  have hA : ∀ q : Nat, s.heap.size ≤ q → A q := fun q h => by rw [← hAe]; trivial
  have hSE : va_S (fun _ => False) s.heap s.heap [] := va_S.rf
  have hS : va_S A s.heap s.heap [] := va_S.rf
  have hP : va_P G.1 nn_cls [] s.heap := hP
  have hl := lv_entry ([.ref (tk (31 + k))]) (n := 1) (Nat.le_of_ble_eq_true rfl)
  rw [lg_entry_eq]
  generalize (lg_sl ([.ref (tk (31 + k))]) ++ List.replicate (1 - (lg_sl ([.ref (tk (31 + k))])).length) Slot.unset).toArray = ls at hl ⊢
  have hl : lv_has ls 1 [(0, .ref (tk (31 + k)))] := hl
  refine va_gets hx hb hE.2.2.2.2.1 hSE hown (hg _ mw_447) (fun _ h9 => h9) d_St_coder_0 ?_
  refine lv_if_eq (tgt := 13) hx hb d_St_coder_3 rfl (fun h => absurd h (by decide)) (fun _ => ?_)
  refine lv_aload_n hx hb d_St_coder_6 rfl (lv_at hl 0 rfl) ?_
  refine vk_getf hx hb (hE.2.1 k hk).2.2.2.2.2.2.1 hSE hown (hg _ mw_1234) (fun _ h9 => h9) d_St_coder_7 ?_
  refine lv_goto (tgt := 14) hx hb d_St_coder_10 rfl ?_
  exact W.zret (v := 0) hx hb hr (by first | rfl | rfl) (fun t ht hW => ⟨0, rfl, rfl, ht⟩) (fun q h => by cases h) d_St_coder_14

theorem d_St_isLatin1_0 : decode b_St_isLatin1 0 = .ok (.getstatic 38, 3) := by decide +kernel
theorem d_St_isLatin1_3 : decode b_St_isLatin1 3 = .ok (.ifCond .eq 14, 3) := by decide +kernel
theorem d_St_isLatin1_6 : decode b_St_isLatin1 6 = .ok (.aload_n 0, 1) := by decide +kernel
theorem d_St_isLatin1_7 : decode b_St_isLatin1 7 = .ok (.getfield 15, 3) := by decide +kernel
theorem d_St_isLatin1_10 : decode b_St_isLatin1 10 = .ok (.ifCond .ne 7, 3) := by decide +kernel
theorem d_St_isLatin1_13 : decode b_St_isLatin1 13 = .ok (.iconst 1, 1) := by decide +kernel
theorem d_St_isLatin1_14 : decode b_St_isLatin1 14 = .ok (.goto 4, 3) := by decide +kernel
theorem d_St_isLatin1_18 : decode b_St_isLatin1 18 = .ok (.ireturn, 1) := by decide +kernel

set_option maxHeartbeats 4000000 in
set_option maxRecDepth 100000 in
theorem s_isLatin1 (l : Launch) (G : nn_G) (tk : Nat → Nat) (sz : Nat) (k : Nat) (hk : k < 31) : Met l y_St_isLatin1 w_St_isLatin1 ({ frames := 0, cells := 0, slots := 0, locals := 0 }) (nz_PR G tk [.ref (tk (31 + k))] [] sz) (vp_Si (fun r => r = 1)) 0 0 (fun _ => False) := by
  refine Met.ofW (cc := b_St_isLatin1) (maxL := 1) (ret := some .boolean) (by decide) rfl ?_
  intro p e s m args below meth c s₁ B hml hv
  obtain ⟨rfl, ⟨hsz, hP, hK, hD0, hN⟩, hE⟩ := hv
  have hx := B.exec
  have hb := B.bytes
  have hr := B.returns
  have hts := atoms_spec (ws := w_St_isLatin1) B.pre
  have hg : ∀ w ∈ nn_gw, w.before _ s = true := fun w h => hts w (List.mem_cons_of_mem _ h)
  have hown : s.vm.findClass R_St = some m.cls := findClass_of_methodNamed B.named
  have hlocks := B.notSynchronized
  subst hsz
  have hD := hD0
  generalize hAe : (fun _ : Nat => True) = A at hD
  have hA : ∀ q : Nat, s.heap.size ≤ q → A q := fun q h => by rw [← hAe]; trivial
  have hSE : va_S (fun _ => False) s.heap s.heap [] := va_S.rf
  have hS : va_S A s.heap s.heap [] := va_S.rf
  have hP : va_P G.1 nn_cls [] s.heap := hP
  have hl := lv_entry ([.ref (tk (31 + k))]) (n := 1) (Nat.le_of_ble_eq_true rfl)
  rw [lg_entry_eq]
  generalize (lg_sl ([.ref (tk (31 + k))]) ++ List.replicate (1 - (lg_sl ([.ref (tk (31 + k))])).length) Slot.unset).toArray = ls at hl ⊢
  have hl : lv_has ls 1 [(0, .ref (tk (31 + k)))] := hl
  refine va_gets hx hb hE.2.2.2.2.1 hSE hown (hg _ mw_447) (fun _ h9 => h9) d_St_isLatin1_0 ?_
  refine lv_if_eq (tgt := 17) hx hb d_St_isLatin1_3 rfl (fun h => absurd h (by decide)) (fun _ => ?_)
  refine lv_aload_n hx hb d_St_isLatin1_6 rfl (lv_at hl 0 rfl) ?_
  refine vk_getf hx hb (hE.2.1 k hk).2.2.2.2.2.2.1 hSE hown (hg _ mw_1234) (fun _ h9 => h9) d_St_isLatin1_7 ?_
  refine lv_if_ne (tgt := 17) hx hb d_St_isLatin1_10 rfl (fun h => absurd (by decide) h) (fun _ => ?_)
  refine lv_iconst (v := 1) hx hb d_St_isLatin1_13 (by decide) ?_
  refine lv_goto (tgt := 18) hx hb d_St_isLatin1_14 rfl ?_
  exact W.zret (v := 1) hx hb hr (by first | rfl | rfl) (fun t ht hW => ⟨1, rfl, rfl, ht⟩) (fun q h => by cases h) d_St_isLatin1_18

theorem mw_97 : (.initialized R_St : Cond) ∈ nn_gw := nn_at 97 (by decide +kernel) (by decide +kernel)
theorem mw_443 : (.methodLink R_St 335 y_St_coder : Cond) ∈ nn_gw := nn_at 443 (by decide +kernel) (by decide +kernel)
theorem mw_444 : (.instanceMethod y_St_coder : Cond) ∈ nn_gw := nn_at 444 (by decide +kernel) (by decide +kernel)
theorem mw_445 : (.selects R_St y_St_coder y_St_coder : Cond) ∈ nn_gw := nn_at 445 (by decide +kernel) (by decide +kernel)
theorem mw_446 : (.code y_St_coder b_St_coder 1 (some .byte) : Cond) ∈ nn_gw := nn_at 446 (by decide +kernel) (by decide +kernel)
theorem mw_1233 : (.fieldLink R_St 9 R_St "value" "[B" : Cond) ∈ nn_gw := nn_at 1233 (by decide +kernel) (by decide +kernel)
theorem d_St_length_0 : decode b_St_length 0 = .ok (.aload_n 0, 1) := by decide +kernel
theorem d_St_length_1 : decode b_St_length 1 = .ok (.getfield 9, 3) := by decide +kernel
theorem d_St_length_4 : decode b_St_length 4 = .ok (.arraylength, 1) := by decide +kernel
theorem d_St_length_5 : decode b_St_length 5 = .ok (.aload_n 0, 1) := by decide +kernel
theorem d_St_length_6 : decode b_St_length 6 = .ok (.invokevirtual 335, 3) := by decide +kernel
theorem d_St_length_9 : decode b_St_length 9 = .ok (.ishr, 1) := by decide +kernel
theorem d_St_length_10 : decode b_St_length 10 = .ok (.ireturn, 1) := by decide +kernel

set_option maxHeartbeats 4000000 in
set_option maxRecDepth 100000 in
theorem s_length (l : Launch) (G : nn_G) (tk : Nat → Nat) (sz : Nat) (k : Nat) (hk : k < 31) : Met l y_St_length w_St_length ({ frames := 1, cells := 0, slots := 0, locals := 20 }) (nz_PR G tk [.ref (tk (31 + k))] [] sz) (vp_Si (fun r => r = nI (tk (141 + k)))) 0 0 (fun _ => False) := by
  refine Met.ofW (cc := b_St_length) (maxL := 1) (ret := some .int) (by decide) rfl ?_
  intro p e s m args below meth c s₁ B hml hv
  obtain ⟨rfl, ⟨hsz, hP, hK, hD0, hN⟩, hE⟩ := hv
  have hx := B.exec
  have hb := B.bytes
  have hr := B.returns
  have hts := atoms_spec (ws := w_St_length) B.pre
  have hg : ∀ w ∈ nn_gw, w.before _ s = true := fun w h => hts w (List.mem_cons_of_mem _ h)
  have hown : s.vm.findClass R_St = some m.cls := findClass_of_methodNamed B.named
  have hlocks := B.notSynchronized
  subst hsz
  have hD := hD0
  generalize hAe : (fun _ : Nat => True) = A at hD
  have hA : ∀ q : Nat, s.heap.size ≤ q → A q := fun q h => by rw [← hAe]; trivial
  have hSE : va_S (fun _ => False) s.heap s.heap [] := va_S.rf
  have hS : va_S A s.heap s.heap [] := va_S.rf
  have hP : va_P G.1 nn_cls [] s.heap := hP
  have hl := lv_entry ([.ref (tk (31 + k))]) (n := 1) (Nat.le_of_ble_eq_true rfl)
  rw [lg_entry_eq]
  generalize (lg_sl ([.ref (tk (31 + k))]) ++ List.replicate (1 - (lg_sl ([.ref (tk (31 + k))])).length) Slot.unset).toArray = ls at hl ⊢
  have hl : lv_has ls 1 [(0, .ref (tk (31 + k)))] := hl
  refine lv_aload_n hx hb d_St_length_0 rfl (lv_at hl 0 rfl) ?_
  refine vk_getf hx hb (hE.2.1 k hk).2.2.2.2.2.2.2.1 hSE hown (hg _ mw_1233) (fun _ h9 => h9) d_St_length_1 ?_
  obtain ⟨f1, hf1⟩ := (hE.2.1 k hk).2.2.2.2.2.2.2.2.2
  refine va_tlen (v := nI (tk (141 + k))) hx hb hf1 hSE rfl d_St_length_4 ?_
  refine lv_aload_n hx hb d_St_length_5 rfl (lv_at hl 0 rfl) ?_
  have hPc := hP.sub (ws' := []) [] rfl
  have hDc := hD.sub (ws' := []) [] (by decide) rfl
  refine vp_callSi (va_Run.run (va_runV (As := []) (rest := [.int (nI (tk (141 + k)))]) ⟨hx, hb, hml, hown, hts⟩ (s_coder l G tk _ k hk) (cwV 0 hts (nn_gV mw_446 mw_443 mw_444 mw_445 mw_97) rfl rfl rfl (by decide +kernel) ⟨Nat.le_of_ble_eq_true rfl, Nat.le_of_ble_eq_true rfl⟩) (nz_preVR (nz_recvS hE hSE hk) hPc hDc hK hN hE hSE) rfl rfl hl.1 rfl (lv_room (Nat.le_of_ble_eq_true rfl)) d_St_length_6 ⟨(Nat.le_of_ble_eq_true rfl), (Nat.le_of_ble_eq_true rfl)⟩)) (fun r2 er2 => ?_)
  subst er2
  refine lv_ishr hx hb d_St_length_9 ?_
  refine nb_top (nI (tk (141 + k))) (nz_shr _) ?_
  exact W.iret (v := nI (tk (141 + k))) hx hb hr (fun t ht hW => ⟨nI (tk (141 + k)), rfl, rfl, ht⟩) (fun q h => by cases h) d_St_length_10

theorem d_Pr_checkIndex_0 : decode b_Pr_checkIndex 0 = .ok (.iload_n 0, 1) := by decide +kernel
theorem d_Pr_checkIndex_1 : decode b_Pr_checkIndex 1 = .ok (.ifCond .lt 8, 3) := by decide +kernel
theorem d_Pr_checkIndex_4 : decode b_Pr_checkIndex 4 = .ok (.iload_n 0, 1) := by decide +kernel
theorem d_Pr_checkIndex_5 : decode b_Pr_checkIndex 5 = .ok (.iload_n 1, 1) := by decide +kernel
theorem d_Pr_checkIndex_6 : decode b_Pr_checkIndex 6 = .ok (.if_icmp .lt 10, 3) := by decide +kernel
theorem d_Pr_checkIndex_16 : decode b_Pr_checkIndex 16 = .ok (.iload_n 0, 1) := by decide +kernel
theorem d_Pr_checkIndex_17 : decode b_Pr_checkIndex 17 = .ok (.ireturn, 1) := by decide +kernel

set_option maxHeartbeats 4000000 in
set_option maxRecDepth 100000 in
theorem s_preN (l : Launch) (G : nn_G) (tk : Nat → Nat) (sz : Nat) (i n : Nat) (hi : i < n) (hn : n < 100) : Met l y_Pr_checkIndex w_Pr_checkIndex ({ frames := 0, cells := 0, slots := 0, locals := 0 }) (nz_PR G tk [.int (nI i), .int (nI n), .null] [] sz) (vp_Si (fun r => True)) 0 0 (fun _ => False) := by
  refine Met.ofW (cc := b_Pr_checkIndex) (maxL := 3) (ret := some .int) (by decide) rfl ?_
  intro p e s m args below meth c s₁ B hml hv
  obtain ⟨rfl, ⟨hsz, hP, hK, hD0, hN⟩, hE⟩ := hv
  have hx := B.exec
  have hb := B.bytes
  have hr := B.returns
  have hts := atoms_spec (ws := w_Pr_checkIndex) B.pre
  have hg : ∀ w ∈ nn_gw, w.before _ s = true := fun w h => hts w (List.mem_cons_of_mem _ h)
  have hown : s.vm.findClass R_Pr = some m.cls := findClass_of_methodNamed B.named
  have hlocks := B.notSynchronized
  subst hsz
  have hD := hD0
  generalize hAe : (fun _ : Nat => True) = A at hD
  have hA : ∀ q : Nat, s.heap.size ≤ q → A q := fun q h => by rw [← hAe]; trivial
  have hSE : va_S (fun _ => False) s.heap s.heap [] := va_S.rf
  have hS : va_S A s.heap s.heap [] := va_S.rf
  have hP : va_P G.1 nn_cls [] s.heap := hP
  have hl := lv_entry ([.int (nI i), .int (nI n), .null]) (n := 3) (Nat.le_of_ble_eq_true rfl)
  rw [lg_entry_eq]
  generalize (lg_sl ([.int (nI i), .int (nI n), .null]) ++ List.replicate (3 - (lg_sl ([.int (nI i), .int (nI n), .null])).length) Slot.unset).toArray = ls at hl ⊢
  have hl : lv_has ls 3 [(0, .int (nI i)), (1, .int (nI n)), (2, .null)] := hl
  refine lv_iload_n hx hb d_Pr_checkIndex_0 rfl (lv_at hl 0 rfl) ?_
  refine lv_if_lt (tgt := 9) hx hb d_Pr_checkIndex_1 rfl (fun h => absurd h (nI_pos (by omega))) (fun _ => ?_)
  refine lv_iload_n hx hb d_Pr_checkIndex_4 rfl (lv_at hl 0 rfl) ?_
  refine lv_iload_n hx hb d_Pr_checkIndex_5 rfl (lv_at hl 1 rfl) ?_
  refine lv_icmp_lt (tgt := 16) hx hb d_Pr_checkIndex_6 rfl (fun _ => ?_) (fun h => absurd (nI_lt hi (by omega)) h)
  refine lv_iload_n hx hb d_Pr_checkIndex_16 rfl (lv_at hl 0 rfl) ?_
  exact W.iret (v := nI i) hx hb hr (fun t ht hW => ⟨nI i, rfl, trivial, ht⟩) (fun q h => by cases h) d_Pr_checkIndex_17

set_option maxHeartbeats 4000000 in
set_option maxRecDepth 100000 in
theorem s_preR (l : Launch) (G : nn_G) (tk : Nat → Nat) (sz : Nat) (i n bq : Nat) (hi : i < n) (hn : n < 100) : Met l y_Pr_checkIndex w_Pr_checkIndex ({ frames := 0, cells := 0, slots := 0, locals := 0 }) (nz_PR G tk [.int (nI i), .int (nI n), .ref bq] [] sz) (vp_Si (fun r => True)) 0 0 (fun _ => False) := by
  refine Met.ofW (cc := b_Pr_checkIndex) (maxL := 3) (ret := some .int) (by decide) rfl ?_
  intro p e s m args below meth c s₁ B hml hv
  obtain ⟨rfl, ⟨hsz, hP, hK, hD0, hN⟩, hE⟩ := hv
  have hx := B.exec
  have hb := B.bytes
  have hr := B.returns
  have hts := atoms_spec (ws := w_Pr_checkIndex) B.pre
  have hg : ∀ w ∈ nn_gw, w.before _ s = true := fun w h => hts w (List.mem_cons_of_mem _ h)
  have hown : s.vm.findClass R_Pr = some m.cls := findClass_of_methodNamed B.named
  have hlocks := B.notSynchronized
  subst hsz
  have hD := hD0
  generalize hAe : (fun _ : Nat => True) = A at hD
  have hA : ∀ q : Nat, s.heap.size ≤ q → A q := fun q h => by rw [← hAe]; trivial
  have hSE : va_S (fun _ => False) s.heap s.heap [] := va_S.rf
  have hS : va_S A s.heap s.heap [] := va_S.rf
  have hP : va_P G.1 nn_cls [] s.heap := hP
  have hl := lv_entry ([.int (nI i), .int (nI n), .ref bq]) (n := 3) (Nat.le_of_ble_eq_true rfl)
  rw [lg_entry_eq]
  generalize (lg_sl ([.int (nI i), .int (nI n), .ref bq]) ++ List.replicate (3 - (lg_sl ([.int (nI i), .int (nI n), .ref bq])).length) Slot.unset).toArray = ls at hl ⊢
  have hl : lv_has ls 3 [(0, .int (nI i)), (1, .int (nI n)), (2, .ref bq)] := hl
  refine lv_iload_n hx hb d_Pr_checkIndex_0 rfl (lv_at hl 0 rfl) ?_
  refine lv_if_lt (tgt := 9) hx hb d_Pr_checkIndex_1 rfl (fun h => absurd h (nI_pos (by omega))) (fun _ => ?_)
  refine lv_iload_n hx hb d_Pr_checkIndex_4 rfl (lv_at hl 0 rfl) ?_
  refine lv_iload_n hx hb d_Pr_checkIndex_5 rfl (lv_at hl 1 rfl) ?_
  refine lv_icmp_lt (tgt := 16) hx hb d_Pr_checkIndex_6 rfl (fun _ => ?_) (fun h => absurd (nI_lt hi (by omega)) h)
  refine lv_iload_n hx hb d_Pr_checkIndex_16 rfl (lv_at hl 0 rfl) ?_
  exact W.iret (v := nI i) hx hb hr (fun t ht hW => ⟨nI i, rfl, trivial, ht⟩) (fun q h => by cases h) d_Pr_checkIndex_17

theorem mw_99 : (.initialized R_Pr : Cond) ∈ nn_gw := nn_at 99 (by decide +kernel) (by decide +kernel)
theorem mw_463 : (.fieldLink R_St 1053 R_Pr "SIOOBE_FORMATTER" "Ljava/util/function/BiFunction;" : Cond) ∈ nn_gw := nn_at 463 (by decide +kernel) (by decide +kernel)
theorem mw_465 : (.methodLink R_St 1059 y_Pr_checkIndex : Cond) ∈ nn_gw := nn_at 465 (by decide +kernel) (by decide +kernel)
theorem mw_466 : (.static y_Pr_checkIndex : Cond) ∈ nn_gw := nn_at 466 (by decide +kernel) (by decide +kernel)
theorem mw_467 : (.code y_Pr_checkIndex b_Pr_checkIndex 3 (some .int) : Cond) ∈ nn_gw := nn_at 467 (by decide +kernel) (by decide +kernel)
theorem d_St_checkIndex_0 : decode b_St_checkIndex 0 = .ok (.iload_n 0, 1) := by decide +kernel
theorem d_St_checkIndex_1 : decode b_St_checkIndex 1 = .ok (.iload_n 1, 1) := by decide +kernel
theorem d_St_checkIndex_2 : decode b_St_checkIndex 2 = .ok (.getstatic 1053, 3) := by decide +kernel
theorem d_St_checkIndex_5 : decode b_St_checkIndex 5 = .ok (.invokestatic 1059, 3) := by decide +kernel
theorem d_St_checkIndex_8 : decode b_St_checkIndex 8 = .ok (.pop, 1) := by decide +kernel
theorem d_St_checkIndex_9 : decode b_St_checkIndex 9 = .ok (.return_, 1) := by decide +kernel

set_option maxHeartbeats 4000000 in
set_option maxRecDepth 100000 in
theorem s_checkIndex (l : Launch) (G : nn_G) (tk : Nat → Nat) (sz : Nat) (i n : Nat) (hi : i < n) (hn : n < 100) : Met l y_St_checkIndex w_St_checkIndex ({ frames := 1, cells := 0, slots := 0, locals := 22 }) (nz_PR G tk [.int (nI i), .int (nI n)] [] sz) (va_Sv (fun _ => True)) 0 0 (fun _ => False) := by
  refine Met.ofW (cc := b_St_checkIndex) (maxL := 2) (ret := none) (by decide) rfl ?_
  intro p e s m args below meth c s₁ B hml hv
  obtain ⟨rfl, ⟨hsz, hP, hK, hD0, hN⟩, hE⟩ := hv
  have hx := B.exec
  have hb := B.bytes
  have hr := B.returns
  have hts := atoms_spec (ws := w_St_checkIndex) B.pre
  have hg : ∀ w ∈ nn_gw, w.before _ s = true := fun w h => hts w (List.mem_cons_of_mem _ h)
  have hown : s.vm.findClass R_St = some m.cls := findClass_of_methodNamed B.named
  have hlocks := B.notSynchronized
  subst hsz
  have hD := hD0
  generalize hAe : (fun _ : Nat => True) = A at hD
  have hA : ∀ q : Nat, s.heap.size ≤ q → A q := fun q h => by rw [← hAe]; trivial
  have hSE : va_S (fun _ => False) s.heap s.heap [] := va_S.rf
  have hS : va_S A s.heap s.heap [] := va_S.rf
  have hP : va_P G.1 nn_cls [] s.heap := hP
  have hl := lv_entry ([.int (nI i), .int (nI n)]) (n := 2) (Nat.le_of_ble_eq_true rfl)
  rw [lg_entry_eq]
  generalize (lg_sl ([.int (nI i), .int (nI n)]) ++ List.replicate (2 - (lg_sl ([.int (nI i), .int (nI n)])).length) Slot.unset).toArray = ls at hl ⊢
  have hl : lv_has ls 2 [(0, .int (nI i)), (1, .int (nI n))] := hl
  refine lv_iload_n hx hb d_St_checkIndex_0 rfl (lv_at hl 0 rfl) ?_
  refine lv_iload_n hx hb d_St_checkIndex_1 rfl (lv_at hl 1 rfl) ?_
  rcases hE.2.2.2.2.2.1 with hzq | ⟨tq, hzq⟩
  · skip
    refine va_gets hx hb hzq hSE hown (hg _ mw_463) (fun _ h9 => h9) d_St_checkIndex_2 ?_
    have hPc := hP.sub (ws' := []) [] rfl
    have hDc := hD.sub (ws' := []) [] (by decide) rfl
    refine vp_callSi (va_Run.run (va_runS (As := [.int (nI i), .int (nI n), .null]) (rest := []) ⟨hx, hb, hml, hown, hts⟩ (s_preN l G tk _ i n hi hn) (va_cwS 3 hts (nn_gS mw_467 mw_465 mw_466 mw_99) rfl rfl rfl (by decide +kernel) ⟨Nat.le_of_ble_eq_true rfl, Nat.le_of_ble_eq_true rfl⟩) (nz_preSR hPc hDc hK hN hE hSE) rfl rfl hl.1 rfl (lv_room (Nat.le_of_ble_eq_true rfl)) d_St_checkIndex_5 ⟨(Nat.le_of_ble_eq_true rfl), (Nat.le_of_ble_eq_true rfl)⟩)) (fun r1 er1 => ?_)
    refine lv_pop hx hb d_St_checkIndex_8 rfl ?_
    exact W.vret hx hb hr (fun t ht hW => ⟨rfl, trivial, ht⟩) (fun q h => by cases h) d_St_checkIndex_9
  · skip
    refine va_gets hx hb hzq hSE hown (hg _ mw_463) (fun _ h9 => h9) d_St_checkIndex_2 ?_
    have hPc := hP.sub (ws' := []) [] rfl
    have hDc := hD.sub (ws' := []) [] (by decide) rfl
    refine vp_callSi (va_Run.run (va_runS (As := [.int (nI i), .int (nI n), .ref tq]) (rest := []) ⟨hx, hb, hml, hown, hts⟩ (s_preR l G tk _ i n tq hi hn) (va_cwS 3 hts (nn_gS mw_467 mw_465 mw_466 mw_99) rfl rfl rfl (by decide +kernel) ⟨Nat.le_of_ble_eq_true rfl, Nat.le_of_ble_eq_true rfl⟩) (nz_preSR hPc hDc hK hN hE hSE) rfl rfl hl.1 rfl (lv_room (Nat.le_of_ble_eq_true rfl)) d_St_checkIndex_5 ⟨(Nat.le_of_ble_eq_true rfl), (Nat.le_of_ble_eq_true rfl)⟩)) (fun r2 er2 => ?_)
    refine lv_pop hx hb d_St_checkIndex_8 rfl ?_
    exact W.vret hx hb hr (fun t ht hW => ⟨rfl, trivial, ht⟩) (fun q h => by cases h) d_St_checkIndex_9

theorem mw_460 : (.methodLink R_Sl 9 y_St_checkIndex : Cond) ∈ nn_gw := nn_at 460 (by decide +kernel) (by decide +kernel)
theorem mw_461 : (.static y_St_checkIndex : Cond) ∈ nn_gw := nn_at 461 (by decide +kernel) (by decide +kernel)
theorem mw_462 : (.code y_St_checkIndex b_St_checkIndex 2 none : Cond) ∈ nn_gw := nn_at 462 (by decide +kernel) (by decide +kernel)
theorem d_Sl_charAt_0 : decode b_Sl_charAt 0 = .ok (.iload_n 1, 1) := by decide +kernel
theorem d_Sl_charAt_1 : decode b_Sl_charAt 1 = .ok (.aload_n 0, 1) := by decide +kernel
theorem d_Sl_charAt_2 : decode b_Sl_charAt 2 = .ok (.arraylength, 1) := by decide +kernel
theorem d_Sl_charAt_3 : decode b_Sl_charAt 3 = .ok (.invokestatic 9, 3) := by decide +kernel
theorem d_Sl_charAt_6 : decode b_Sl_charAt 6 = .ok (.aload_n 0, 1) := by decide +kernel
theorem d_Sl_charAt_7 : decode b_Sl_charAt 7 = .ok (.iload_n 1, 1) := by decide +kernel
theorem d_Sl_charAt_8 : decode b_Sl_charAt 8 = .ok (.baload, 1) := by decide +kernel
theorem d_Sl_charAt_9 : decode b_Sl_charAt 9 = .ok (.sipush 255, 3) := by decide +kernel
theorem d_Sl_charAt_12 : decode b_Sl_charAt 12 = .ok (.iand, 1) := by decide +kernel
theorem d_Sl_charAt_13 : decode b_Sl_charAt 13 = .ok (.i2c, 1) := by decide +kernel
theorem d_Sl_charAt_14 : decode b_Sl_charAt 14 = .ok (.ireturn, 1) := by decide +kernel

set_option maxHeartbeats 4000000 in
set_option maxRecDepth 100000 in
theorem s_latChar (l : Launch) (G : nn_G) (tk : Nat → Nat) (sz : Nat) (k : Nat) (hk : k < 31) (i : Nat) (hi : i < tk (141 + k)) : Met l y_Sl_charAt w_Sl_charAt ({ frames := 2, cells := 0, slots := 0, locals := 43 }) (nz_PR G tk [.ref (tk (62 + k)), .int (nI i)] [] sz) (vp_Si (fun r => ∃ x : Int32, r = (x.toUInt32 % 65536).toInt32)) 0 0 (fun _ => False) := by
  refine Met.ofW (cc := b_Sl_charAt) (maxL := 2) (ret := some .char) (by decide) rfl ?_
  intro p e s m args below meth c s₁ B hml hv
  obtain ⟨rfl, ⟨hsz, hP, hK, hD0, hN⟩, hE⟩ := hv
  have hx := B.exec
  have hb := B.bytes
  have hr := B.returns
  have hts := atoms_spec (ws := w_Sl_charAt) B.pre
  have hg : ∀ w ∈ nn_gw, w.before _ s = true := fun w h => hts w (List.mem_cons_of_mem _ h)
  have hown : s.vm.findClass R_Sl = some m.cls := findClass_of_methodNamed B.named
  have hlocks := B.notSynchronized
  subst hsz
  have hD := hD0
  generalize hAe : (fun _ : Nat => True) = A at hD
  have hA : ∀ q : Nat, s.heap.size ≤ q → A q := fun q h => by rw [← hAe]; trivial
  have hSE : va_S (fun _ => False) s.heap s.heap [] := va_S.rf
  have hS : va_S A s.heap s.heap [] := va_S.rf
  have hP : va_P G.1 nn_cls [] s.heap := hP
  have hl := lv_entry ([.ref (tk (62 + k)), .int (nI i)]) (n := 2) (Nat.le_of_ble_eq_true rfl)
  rw [lg_entry_eq]
  generalize (lg_sl ([.ref (tk (62 + k)), .int (nI i)]) ++ List.replicate (2 - (lg_sl ([.ref (tk (62 + k)), .int (nI i)])).length) Slot.unset).toArray = ls at hl ⊢
  have hl : lv_has ls 2 [(0, .ref (tk (62 + k))), (1, .int (nI i))] := hl
  refine lv_iload_n hx hb d_Sl_charAt_0 rfl (lv_at hl 1 rfl) ?_
  refine lv_aload_n hx hb d_Sl_charAt_1 rfl (lv_at hl 0 rfl) ?_
  obtain ⟨f1, hf1⟩ := (hE.2.1 k hk).2.2.2.2.2.2.2.2.2
  refine va_tlen (v := nI (tk (141 + k))) hx hb hf1 hSE rfl d_Sl_charAt_2 ?_
  have hPc := hP.sub (ws' := []) [] rfl
  have hDc := hD.sub (ws' := []) [] (by decide) rfl
  refine va_csv (va_Run.run (va_runS (As := [.int (nI i), .int (nI (tk (141 + k)))]) (rest := []) ⟨hx, hb, hml, hown, hts⟩ (s_checkIndex l G tk _ i (tk (141 + k)) hi (hE.2.1 k hk).2.2.2.2.2.2.2.2.1) (va_cwS 2 hts (nn_gS mw_462 mw_460 mw_461 mw_97) rfl rfl rfl (by decide +kernel) ⟨Nat.le_of_ble_eq_true rfl, Nat.le_of_ble_eq_true rfl⟩) (nz_preSR hPc hDc hK hN hE hSE) rfl rfl hl.1 rfl (lv_room (Nat.le_of_ble_eq_true rfl)) d_Sl_charAt_3 ⟨(Nat.le_of_ble_eq_true rfl), (Nat.le_of_ble_eq_true rfl)⟩)) (fun _ => ?_)
  refine lv_aload_n hx hb d_Sl_charAt_6 rfl (lv_at hl 0 rfl) ?_
  refine lv_iload_n hx hb d_Sl_charAt_7 rfl (lv_at hl 1 rfl) ?_
  obtain ⟨f3, hf3⟩ := (hE.2.1 k hk).2.2.2.2.2.2.2.2.2
  refine va_tb hx hb hf3 hSE (vp_in_nI hi (by have := (hE.2.1 k hk).2.2.2.2.2.2.2.2.1; omega)) rfl d_Sl_charAt_8 ?_
  refine lv_sipush (v := 255) hx hb d_Sl_charAt_9 (by decide) ?_
  refine lv_iand hx hb d_Sl_charAt_12 ?_
  refine lv_i2c (v := (((f3 (nI i).toNatClampNeg) &&& 255).toUInt32 % 65536).toInt32) hx hb d_Sl_charAt_13 rfl ?_
  exact W.zret (v := (((f3 (nI i).toNatClampNeg) &&& 255).toUInt32 % 65536).toInt32) hx hb hr (by first | rfl | exact nz_narc _) (fun t ht hW => ⟨(((f3 (nI i).toNatClampNeg) &&& 255).toUInt32 % 65536).toInt32, rfl, ⟨_, rfl⟩, ht⟩) (fun q h => by cases h) d_Sl_charAt_14

theorem mw_98 : (.initialized R_Sl : Cond) ∈ nn_gw := nn_at 98 (by decide +kernel) (by decide +kernel)
theorem mw_453 : (.methodLink R_St 492 y_St_isLatin1 : Cond) ∈ nn_gw := nn_at 453 (by decide +kernel) (by decide +kernel)
theorem mw_454 : (.instanceMethod y_St_isLatin1 : Cond) ∈ nn_gw := nn_at 454 (by decide +kernel) (by decide +kernel)
theorem mw_455 : (.selects R_St y_St_isLatin1 y_St_isLatin1 : Cond) ∈ nn_gw := nn_at 455 (by decide +kernel) (by decide +kernel)
theorem mw_456 : (.code y_St_isLatin1 b_St_isLatin1 1 (some .boolean) : Cond) ∈ nn_gw := nn_at 456 (by decide +kernel) (by decide +kernel)
theorem mw_457 : (.methodLink R_St 495 y_Sl_charAt : Cond) ∈ nn_gw := nn_at 457 (by decide +kernel) (by decide +kernel)
theorem mw_458 : (.static y_Sl_charAt : Cond) ∈ nn_gw := nn_at 458 (by decide +kernel) (by decide +kernel)
theorem mw_459 : (.code y_Sl_charAt b_Sl_charAt 2 (some .char) : Cond) ∈ nn_gw := nn_at 459 (by decide +kernel) (by decide +kernel)
theorem d_St_charAt_0 : decode b_St_charAt 0 = .ok (.aload_n 0, 1) := by decide +kernel
theorem d_St_charAt_1 : decode b_St_charAt 1 = .ok (.invokevirtual 492, 3) := by decide +kernel
theorem d_St_charAt_4 : decode b_St_charAt 4 = .ok (.ifCond .eq 12, 3) := by decide +kernel
theorem d_St_charAt_7 : decode b_St_charAt 7 = .ok (.aload_n 0, 1) := by decide +kernel
theorem d_St_charAt_8 : decode b_St_charAt 8 = .ok (.getfield 9, 3) := by decide +kernel
theorem d_St_charAt_11 : decode b_St_charAt 11 = .ok (.iload_n 1, 1) := by decide +kernel
theorem d_St_charAt_12 : decode b_St_charAt 12 = .ok (.invokestatic 495, 3) := by decide +kernel
theorem d_St_charAt_15 : decode b_St_charAt 15 = .ok (.ireturn, 1) := by decide +kernel

set_option maxHeartbeats 4000000 in
set_option maxRecDepth 100000 in
theorem s_charAt (l : Launch) (G : nn_G) (tk : Nat → Nat) (sz : Nat) (k : Nat) (hk : k < 31) (i : Nat) (hi : i < tk (141 + k)) : Met l y_St_charAt w_St_charAt ({ frames := 3, cells := 0, slots := 0, locals := 64 }) (nz_PR G tk [.ref (tk (31 + k)), .int (nI i)] [] sz) (vp_Si (fun r => ∃ x : Int32, r = (x.toUInt32 % 65536).toInt32)) 0 0 (fun _ => False) := by
  refine Met.ofW (cc := b_St_charAt) (maxL := 2) (ret := some .char) (by decide) rfl ?_
  intro p e s m args below meth c s₁ B hml hv
  obtain ⟨rfl, ⟨hsz, hP, hK, hD0, hN⟩, hE⟩ := hv
  have hx := B.exec
  have hb := B.bytes
  have hr := B.returns
  have hts := atoms_spec (ws := w_St_charAt) B.pre
  have hg : ∀ w ∈ nn_gw, w.before _ s = true := fun w h => hts w (List.mem_cons_of_mem _ h)
  have hown : s.vm.findClass R_St = some m.cls := findClass_of_methodNamed B.named
  have hlocks := B.notSynchronized
  subst hsz
  have hD := hD0
  generalize hAe : (fun _ : Nat => True) = A at hD
  have hA : ∀ q : Nat, s.heap.size ≤ q → A q := fun q h => by rw [← hAe]; trivial
  have hSE : va_S (fun _ => False) s.heap s.heap [] := va_S.rf
  have hS : va_S A s.heap s.heap [] := va_S.rf
  have hP : va_P G.1 nn_cls [] s.heap := hP
  have hl := lv_entry ([.ref (tk (31 + k)), .int (nI i)]) (n := 2) (Nat.le_of_ble_eq_true rfl)
  rw [lg_entry_eq]
  generalize (lg_sl ([.ref (tk (31 + k)), .int (nI i)]) ++ List.replicate (2 - (lg_sl ([.ref (tk (31 + k)), .int (nI i)])).length) Slot.unset).toArray = ls at hl ⊢
  have hl : lv_has ls 2 [(0, .ref (tk (31 + k))), (1, .int (nI i))] := hl
  refine lv_aload_n hx hb d_St_charAt_0 rfl (lv_at hl 0 rfl) ?_
  have hPc := hP.sub (ws' := []) [] rfl
  have hDc := hD.sub (ws' := []) [] (by decide) rfl
  refine vp_callSi (va_Run.run (va_runV (As := []) (rest := []) ⟨hx, hb, hml, hown, hts⟩ (s_isLatin1 l G tk _ k hk) (cwV 0 hts (nn_gV mw_456 mw_453 mw_454 mw_455 mw_97) rfl rfl rfl (by decide +kernel) ⟨Nat.le_of_ble_eq_true rfl, Nat.le_of_ble_eq_true rfl⟩) (nz_preVR (nz_recvS hE hSE hk) hPc hDc hK hN hE hSE) rfl rfl hl.1 rfl (lv_room (Nat.le_of_ble_eq_true rfl)) d_St_charAt_1 ⟨(Nat.le_of_ble_eq_true rfl), (Nat.le_of_ble_eq_true rfl)⟩)) (fun r1 er1 => ?_)
  subst er1
  refine lv_if_eq (tgt := 16) hx hb d_St_charAt_4 rfl (fun h => absurd h (by decide)) (fun _ => ?_)
  refine lv_aload_n hx hb d_St_charAt_7 rfl (lv_at hl 0 rfl) ?_
  refine vk_getf hx hb (hE.2.1 k hk).2.2.2.2.2.2.2.1 hSE hown (hg _ mw_1233) (fun _ h9 => h9) d_St_charAt_8 ?_
  refine lv_iload_n hx hb d_St_charAt_11 rfl (lv_at hl 1 rfl) ?_
  have hPc := hP.sub (ws' := []) [] rfl
  have hDc := hD.sub (ws' := []) [] (by decide) rfl
  refine vp_callSi (va_Run.run (va_runS (As := [.ref (tk (62 + k)), .int (nI i)]) (rest := []) ⟨hx, hb, hml, hown, hts⟩ (s_latChar l G tk _ k hk i hi) (va_cwS 2 hts (nn_gS mw_459 mw_457 mw_458 mw_98) rfl rfl rfl (by decide +kernel) ⟨Nat.le_of_ble_eq_true rfl, Nat.le_of_ble_eq_true rfl⟩) (nz_preSR hPc hDc hK hN hE hSE) rfl rfl hl.1 rfl (lv_room (Nat.le_of_ble_eq_true rfl)) d_St_charAt_12 ⟨(Nat.le_of_ble_eq_true rfl), (Nat.le_of_ble_eq_true rfl)⟩)) (fun r2 er2 => ?_)
  exact W.zret (v := r2) hx hb hr (by first | rfl | (obtain ⟨x, rfl⟩ := er2; exact nz_narc _)) (fun t ht hW => ⟨r2, rfl, er2, ht⟩) (fun q h => by cases h) d_St_charAt_15

theorem mw_1236 : (.fieldLink R_To 120 R_To "operator" "I" : Cond) ∈ nn_gw := nn_at 1236 (by decide +kernel) (by decide +kernel)
theorem d_To_operator_0 : decode b_To_operator 0 = .ok (.aload_n 0, 1) := by decide +kernel
theorem d_To_operator_1 : decode b_To_operator 1 = .ok (.getfield 120, 3) := by decide +kernel
theorem d_To_operator_4 : decode b_To_operator 4 = .ok (.ireturn, 1) := by decide +kernel

set_option maxHeartbeats 4000000 in
set_option maxRecDepth 100000 in
theorem s_operator (l : Launch) (G : nn_G) (tk : Nat → Nat) (sz : Nat) (k : Nat) (hk : k < 31) : Met l y_To_operator w_To_operator ({ frames := 0, cells := 0, slots := 0, locals := 0 }) (nz_PR G tk [.ref (tk k)] [] sz) (vp_Si (fun r => True)) 0 0 (fun _ => False) := by
  refine Met.ofW (cc := b_To_operator) (maxL := 1) (ret := some .int) (by decide) rfl ?_
  intro p e s m args below meth c s₁ B hml hv
  obtain ⟨rfl, ⟨hsz, hP, hK, hD0, hN⟩, hE⟩ := hv
  have hx := B.exec
  have hb := B.bytes
  have hr := B.returns
  have hts := atoms_spec (ws := w_To_operator) B.pre
  have hg : ∀ w ∈ nn_gw, w.before _ s = true := fun w h => hts w (List.mem_cons_of_mem _ h)
  have hown : s.vm.findClass R_To = some m.cls := findClass_of_methodNamed B.named
  have hlocks := B.notSynchronized
  subst hsz
  have hD := hD0
  generalize hAe : (fun _ : Nat => True) = A at hD
  have hA : ∀ q : Nat, s.heap.size ≤ q → A q := fun q h => by rw [← hAe]; trivial
  have hSE : va_S (fun _ => False) s.heap s.heap [] := va_S.rf
  have hS : va_S A s.heap s.heap [] := va_S.rf
  have hP : va_P G.1 nn_cls [] s.heap := hP
  have hl := lv_entry ([.ref (tk k)]) (n := 1) (Nat.le_of_ble_eq_true rfl)
  rw [lg_entry_eq]
  generalize (lg_sl ([.ref (tk k)]) ++ List.replicate (1 - (lg_sl ([.ref (tk k)])).length) Slot.unset).toArray = ls at hl ⊢
  have hl : lv_has ls 1 [(0, .ref (tk k))] := hl
  refine lv_aload_n hx hb d_To_operator_0 rfl (lv_at hl 0 rfl) ?_
  obtain ⟨z1, hz1⟩ := (hE.2.1 k hk).2.2.2.1
  refine vk_getf hx hb hz1 hSE hown (hg _ mw_1236) (fun _ h9 => h9) d_To_operator_1 ?_
  exact W.iret (v := z1) hx hb hr (fun t ht hW => ⟨z1, rfl, trivial, ht⟩) (fun q h => by cases h) d_To_operator_4

theorem d_To_isSum_0 : decode b_To_isSum 0 = .ok (.aload_n 0, 1) := by decide +kernel
theorem d_To_isSum_1 : decode b_To_isSum 1 = .ok (.getfield 120, 3) := by decide +kernel
theorem d_To_isSum_4 : decode b_To_isSum 4 = .ok (.iconst 2, 1) := by decide +kernel
theorem d_To_isSum_5 : decode b_To_isSum 5 = .ok (.if_icmp .eq 11, 3) := by decide +kernel
theorem d_To_isSum_8 : decode b_To_isSum 8 = .ok (.aload_n 0, 1) := by decide +kernel
theorem d_To_isSum_9 : decode b_To_isSum 9 = .ok (.getfield 120, 3) := by decide +kernel
theorem d_To_isSum_12 : decode b_To_isSum 12 = .ok (.iconst 3, 1) := by decide +kernel
theorem d_To_isSum_13 : decode b_To_isSum 13 = .ok (.if_icmp .ne 7, 3) := by decide +kernel
theorem d_To_isSum_16 : decode b_To_isSum 16 = .ok (.iconst 1, 1) := by decide +kernel
theorem d_To_isSum_17 : decode b_To_isSum 17 = .ok (.goto 4, 3) := by decide +kernel
theorem d_To_isSum_20 : decode b_To_isSum 20 = .ok (.iconst 0, 1) := by decide +kernel
theorem d_To_isSum_21 : decode b_To_isSum 21 = .ok (.ireturn, 1) := by decide +kernel

set_option maxHeartbeats 4000000 in
set_option maxRecDepth 100000 in
theorem s_isSum (l : Launch) (G : nn_G) (tk : Nat → Nat) (sz : Nat) (k : Nat) (hk : k < 31) : Met l y_To_isSum w_To_isSum ({ frames := 0, cells := 0, slots := 0, locals := 0 }) (nz_PR G tk [.ref (tk k)] [] sz) (vp_Si (fun r => True)) 0 0 (fun _ => False) := by
  refine Met.ofW (cc := b_To_isSum) (maxL := 1) (ret := some .boolean) (by decide) rfl ?_
  intro p e s m args below meth c s₁ B hml hv
  obtain ⟨rfl, ⟨hsz, hP, hK, hD0, hN⟩, hE⟩ := hv
  have hx := B.exec
  have hb := B.bytes
  have hr := B.returns
  have hts := atoms_spec (ws := w_To_isSum) B.pre
  have hg : ∀ w ∈ nn_gw, w.before _ s = true := fun w h => hts w (List.mem_cons_of_mem _ h)
  have hown : s.vm.findClass R_To = some m.cls := findClass_of_methodNamed B.named
  have hlocks := B.notSynchronized
  subst hsz
  have hD := hD0
  generalize hAe : (fun _ : Nat => True) = A at hD
  have hA : ∀ q : Nat, s.heap.size ≤ q → A q := fun q h => by rw [← hAe]; trivial
  have hSE : va_S (fun _ => False) s.heap s.heap [] := va_S.rf
  have hS : va_S A s.heap s.heap [] := va_S.rf
  have hP : va_P G.1 nn_cls [] s.heap := hP
  have hl := lv_entry ([.ref (tk k)]) (n := 1) (Nat.le_of_ble_eq_true rfl)
  rw [lg_entry_eq]
  generalize (lg_sl ([.ref (tk k)]) ++ List.replicate (1 - (lg_sl ([.ref (tk k)])).length) Slot.unset).toArray = ls at hl ⊢
  have hl : lv_has ls 1 [(0, .ref (tk k))] := hl
  refine lv_aload_n hx hb d_To_isSum_0 rfl (lv_at hl 0 rfl) ?_
  obtain ⟨z1, hz1⟩ := (hE.2.1 k hk).2.2.2.1
  refine vk_getf hx hb hz1 hSE hown (hg _ mw_1236) (fun _ h9 => h9) d_To_isSum_1 ?_
  refine lv_iconst (v := 2) hx hb d_To_isSum_4 (by decide) ?_
  refine lv_icmp_eq (tgt := 16) hx hb d_To_isSum_5 rfl (fun hc5 => ?_) (fun hc5 => ?_)
  · skip
    refine lv_iconst (v := 1) hx hb d_To_isSum_16 (by decide) ?_
    refine lv_goto (tgt := 21) hx hb d_To_isSum_17 rfl ?_
    exact W.zret (v := 1) hx hb hr (by first | rfl | rfl) (fun t ht hW => ⟨1, rfl, trivial, ht⟩) (fun q h => by cases h) d_To_isSum_21
  · skip
    refine lv_aload_n hx hb d_To_isSum_8 rfl (lv_at hl 0 rfl) ?_
    obtain ⟨z2, hz2⟩ := (hE.2.1 k hk).2.2.2.1
    refine vk_getf hx hb hz2 hSE hown (hg _ mw_1236) (fun _ h9 => h9) d_To_isSum_9 ?_
    refine lv_iconst (v := 3) hx hb d_To_isSum_12 (by decide) ?_
    refine lv_icmp_ne (tgt := 20) hx hb d_To_isSum_13 rfl (fun hc13 => ?_) (fun hc13 => ?_)
    · skip
      refine lv_iconst (v := 0) hx hb d_To_isSum_20 (by decide) ?_
      exact W.zret (v := 0) hx hb hr (by first | rfl | rfl) (fun t ht hW => ⟨0, rfl, trivial, ht⟩) (fun q h => by cases h) d_To_isSum_21
    · skip
      refine lv_iconst (v := 1) hx hb d_To_isSum_16 (by decide) ?_
      refine lv_goto (tgt := 21) hx hb d_To_isSum_17 rfl ?_
      exact W.zret (v := 1) hx hb hr (by first | rfl | rfl) (fun t ht hW => ⟨1, rfl, trivial, ht⟩) (fun q h => by cases h) d_To_isSum_21

theorem d_To_isProduct_0 : decode b_To_isProduct 0 = .ok (.aload_n 0, 1) := by decide +kernel
theorem d_To_isProduct_1 : decode b_To_isProduct 1 = .ok (.getfield 120, 3) := by decide +kernel
theorem d_To_isProduct_4 : decode b_To_isProduct 4 = .ok (.iconst 4, 1) := by decide +kernel
theorem d_To_isProduct_5 : decode b_To_isProduct 5 = .ok (.if_icmp .eq 11, 3) := by decide +kernel
theorem d_To_isProduct_8 : decode b_To_isProduct 8 = .ok (.aload_n 0, 1) := by decide +kernel
theorem d_To_isProduct_9 : decode b_To_isProduct 9 = .ok (.getfield 120, 3) := by decide +kernel
theorem d_To_isProduct_12 : decode b_To_isProduct 12 = .ok (.iconst 5, 1) := by decide +kernel
theorem d_To_isProduct_13 : decode b_To_isProduct 13 = .ok (.if_icmp .ne 7, 3) := by decide +kernel
theorem d_To_isProduct_16 : decode b_To_isProduct 16 = .ok (.iconst 1, 1) := by decide +kernel
theorem d_To_isProduct_17 : decode b_To_isProduct 17 = .ok (.goto 4, 3) := by decide +kernel
theorem d_To_isProduct_20 : decode b_To_isProduct 20 = .ok (.iconst 0, 1) := by decide +kernel
theorem d_To_isProduct_21 : decode b_To_isProduct 21 = .ok (.ireturn, 1) := by decide +kernel

set_option maxHeartbeats 4000000 in
set_option maxRecDepth 100000 in
theorem s_isProduct (l : Launch) (G : nn_G) (tk : Nat → Nat) (sz : Nat) (k : Nat) (hk : k < 31) : Met l y_To_isProduct w_To_isProduct ({ frames := 0, cells := 0, slots := 0, locals := 0 }) (nz_PR G tk [.ref (tk k)] [] sz) (vp_Si (fun r => True)) 0 0 (fun _ => False) := by
  refine Met.ofW (cc := b_To_isProduct) (maxL := 1) (ret := some .boolean) (by decide) rfl ?_
  intro p e s m args below meth c s₁ B hml hv
  obtain ⟨rfl, ⟨hsz, hP, hK, hD0, hN⟩, hE⟩ := hv
  have hx := B.exec
  have hb := B.bytes
  have hr := B.returns
  have hts := atoms_spec (ws := w_To_isProduct) B.pre
  have hg : ∀ w ∈ nn_gw, w.before _ s = true := fun w h => hts w (List.mem_cons_of_mem _ h)
  have hown : s.vm.findClass R_To = some m.cls := findClass_of_methodNamed B.named
  have hlocks := B.notSynchronized
  subst hsz
  have hD := hD0
  generalize hAe : (fun _ : Nat => True) = A at hD
  have hA : ∀ q : Nat, s.heap.size ≤ q → A q := fun q h => by rw [← hAe]; trivial
  have hSE : va_S (fun _ => False) s.heap s.heap [] := va_S.rf
  have hS : va_S A s.heap s.heap [] := va_S.rf
  have hP : va_P G.1 nn_cls [] s.heap := hP
  have hl := lv_entry ([.ref (tk k)]) (n := 1) (Nat.le_of_ble_eq_true rfl)
  rw [lg_entry_eq]
  generalize (lg_sl ([.ref (tk k)]) ++ List.replicate (1 - (lg_sl ([.ref (tk k)])).length) Slot.unset).toArray = ls at hl ⊢
  have hl : lv_has ls 1 [(0, .ref (tk k))] := hl
  refine lv_aload_n hx hb d_To_isProduct_0 rfl (lv_at hl 0 rfl) ?_
  obtain ⟨z1, hz1⟩ := (hE.2.1 k hk).2.2.2.1
  refine vk_getf hx hb hz1 hSE hown (hg _ mw_1236) (fun _ h9 => h9) d_To_isProduct_1 ?_
  refine lv_iconst (v := 4) hx hb d_To_isProduct_4 (by decide) ?_
  refine lv_icmp_eq (tgt := 16) hx hb d_To_isProduct_5 rfl (fun hc5 => ?_) (fun hc5 => ?_)
  · skip
    refine lv_iconst (v := 1) hx hb d_To_isProduct_16 (by decide) ?_
    refine lv_goto (tgt := 21) hx hb d_To_isProduct_17 rfl ?_
    exact W.zret (v := 1) hx hb hr (by first | rfl | rfl) (fun t ht hW => ⟨1, rfl, trivial, ht⟩) (fun q h => by cases h) d_To_isProduct_21
  · skip
    refine lv_aload_n hx hb d_To_isProduct_8 rfl (lv_at hl 0 rfl) ?_
    obtain ⟨z2, hz2⟩ := (hE.2.1 k hk).2.2.2.1
    refine vk_getf hx hb hz2 hSE hown (hg _ mw_1236) (fun _ h9 => h9) d_To_isProduct_9 ?_
    refine lv_iconst (v := 5) hx hb d_To_isProduct_12 (by decide) ?_
    refine lv_icmp_ne (tgt := 20) hx hb d_To_isProduct_13 rfl (fun hc13 => ?_) (fun hc13 => ?_)
    · skip
      refine lv_iconst (v := 0) hx hb d_To_isProduct_20 (by decide) ?_
      exact W.zret (v := 0) hx hb hr (by first | rfl | rfl) (fun t ht hW => ⟨0, rfl, trivial, ht⟩) (fun q h => by cases h) d_To_isProduct_21
    · skip
      refine lv_iconst (v := 1) hx hb d_To_isProduct_16 (by decide) ?_
      refine lv_goto (tgt := 21) hx hb d_To_isProduct_17 rfl ?_
      exact W.zret (v := 1) hx hb hr (by first | rfl | rfl) (fun t ht hW => ⟨1, rfl, trivial, ht⟩) (fun q h => by cases h) d_To_isProduct_21

theorem d_To_isRelation_0 : decode b_To_isRelation 0 = .ok (.aload_n 0, 1) := by decide +kernel
theorem d_To_isRelation_1 : decode b_To_isRelation 1 = .ok (.getfield 120, 3) := by decide +kernel
theorem d_To_isRelation_4 : decode b_To_isRelation 4 = .ok (.bipush 6, 2) := by decide +kernel
theorem d_To_isRelation_6 : decode b_To_isRelation 6 = .ok (.if_icmp .lt 16, 3) := by decide +kernel
theorem d_To_isRelation_9 : decode b_To_isRelation 9 = .ok (.aload_n 0, 1) := by decide +kernel
theorem d_To_isRelation_10 : decode b_To_isRelation 10 = .ok (.getfield 120, 3) := by decide +kernel
theorem d_To_isRelation_13 : decode b_To_isRelation 13 = .ok (.bipush 9, 2) := by decide +kernel
theorem d_To_isRelation_15 : decode b_To_isRelation 15 = .ok (.if_icmp .gt 7, 3) := by decide +kernel
theorem d_To_isRelation_18 : decode b_To_isRelation 18 = .ok (.iconst 1, 1) := by decide +kernel
theorem d_To_isRelation_19 : decode b_To_isRelation 19 = .ok (.goto 4, 3) := by decide +kernel
theorem d_To_isRelation_22 : decode b_To_isRelation 22 = .ok (.iconst 0, 1) := by decide +kernel
theorem d_To_isRelation_23 : decode b_To_isRelation 23 = .ok (.ireturn, 1) := by decide +kernel

set_option maxHeartbeats 4000000 in
set_option maxRecDepth 100000 in
theorem s_isRelation (l : Launch) (G : nn_G) (tk : Nat → Nat) (sz : Nat) (k : Nat) (hk : k < 31) : Met l y_To_isRelation w_To_isRelation ({ frames := 0, cells := 0, slots := 0, locals := 0 }) (nz_PR G tk [.ref (tk k)] [] sz) (vp_Si (fun r => True)) 0 0 (fun _ => False) := by
  refine Met.ofW (cc := b_To_isRelation) (maxL := 1) (ret := some .boolean) (by decide) rfl ?_
  intro p e s m args below meth c s₁ B hml hv
  obtain ⟨rfl, ⟨hsz, hP, hK, hD0, hN⟩, hE⟩ := hv
  have hx := B.exec
  have hb := B.bytes
  have hr := B.returns
  have hts := atoms_spec (ws := w_To_isRelation) B.pre
  have hg : ∀ w ∈ nn_gw, w.before _ s = true := fun w h => hts w (List.mem_cons_of_mem _ h)
  have hown : s.vm.findClass R_To = some m.cls := findClass_of_methodNamed B.named
  have hlocks := B.notSynchronized
  subst hsz
  have hD := hD0
  generalize hAe : (fun _ : Nat => True) = A at hD
  have hA : ∀ q : Nat, s.heap.size ≤ q → A q := fun q h => by rw [← hAe]; trivial
  have hSE : va_S (fun _ => False) s.heap s.heap [] := va_S.rf
  have hS : va_S A s.heap s.heap [] := va_S.rf
  have hP : va_P G.1 nn_cls [] s.heap := hP
  have hl := lv_entry ([.ref (tk k)]) (n := 1) (Nat.le_of_ble_eq_true rfl)
  rw [lg_entry_eq]
  generalize (lg_sl ([.ref (tk k)]) ++ List.replicate (1 - (lg_sl ([.ref (tk k)])).length) Slot.unset).toArray = ls at hl ⊢
  have hl : lv_has ls 1 [(0, .ref (tk k))] := hl
  refine lv_aload_n hx hb d_To_isRelation_0 rfl (lv_at hl 0 rfl) ?_
  obtain ⟨z1, hz1⟩ := (hE.2.1 k hk).2.2.2.1
  refine vk_getf hx hb hz1 hSE hown (hg _ mw_1236) (fun _ h9 => h9) d_To_isRelation_1 ?_
  refine lv_bipush (v := 6) hx hb d_To_isRelation_4 (by decide) ?_
  refine lv_icmp_lt (tgt := 22) hx hb d_To_isRelation_6 rfl (fun hc6 => ?_) (fun hc6 => ?_)
  · skip
    refine lv_iconst (v := 0) hx hb d_To_isRelation_22 (by decide) ?_
    exact W.zret (v := 0) hx hb hr (by first | rfl | rfl) (fun t ht hW => ⟨0, rfl, trivial, ht⟩) (fun q h => by cases h) d_To_isRelation_23
  · skip
    refine lv_aload_n hx hb d_To_isRelation_9 rfl (lv_at hl 0 rfl) ?_
    obtain ⟨z2, hz2⟩ := (hE.2.1 k hk).2.2.2.1
    refine vk_getf hx hb hz2 hSE hown (hg _ mw_1236) (fun _ h9 => h9) d_To_isRelation_10 ?_
    refine lv_bipush (v := 9) hx hb d_To_isRelation_13 (by decide) ?_
    refine lv_icmp_gt (tgt := 22) hx hb d_To_isRelation_15 rfl (fun hc15 => ?_) (fun hc15 => ?_)
    · skip
      refine lv_iconst (v := 0) hx hb d_To_isRelation_22 (by decide) ?_
      exact W.zret (v := 0) hx hb hr (by first | rfl | rfl) (fun t ht hW => ⟨0, rfl, trivial, ht⟩) (fun q h => by cases h) d_To_isRelation_23
    · skip
      refine lv_iconst (v := 1) hx hb d_To_isRelation_18 (by decide) ?_
      refine lv_goto (tgt := 23) hx hb d_To_isRelation_19 rfl ?_
      exact W.zret (v := 1) hx hb hr (by first | rfl | rfl) (fun t ht hW => ⟨1, rfl, trivial, ht⟩) (fun q h => by cases h) d_To_isRelation_23

theorem mw_439 : (.methodLink R_To 133 y_St_length : Cond) ∈ nn_gw := nn_at 439 (by decide +kernel) (by decide +kernel)
theorem mw_440 : (.instanceMethod y_St_length : Cond) ∈ nn_gw := nn_at 440 (by decide +kernel) (by decide +kernel)
theorem mw_441 : (.selects R_St y_St_length y_St_length : Cond) ∈ nn_gw := nn_at 441 (by decide +kernel) (by decide +kernel)
theorem mw_442 : (.code y_St_length b_St_length 1 (some .int) : Cond) ∈ nn_gw := nn_at 442 (by decide +kernel) (by decide +kernel)
theorem mw_449 : (.methodLink R_To 139 y_St_charAt : Cond) ∈ nn_gw := nn_at 449 (by decide +kernel) (by decide +kernel)
theorem mw_450 : (.instanceMethod y_St_charAt : Cond) ∈ nn_gw := nn_at 450 (by decide +kernel) (by decide +kernel)
theorem mw_451 : (.selects R_St y_St_charAt y_St_charAt : Cond) ∈ nn_gw := nn_at 451 (by decide +kernel) (by decide +kernel)
theorem mw_452 : (.code y_St_charAt b_St_charAt 2 (some .char) : Cond) ∈ nn_gw := nn_at 452 (by decide +kernel) (by decide +kernel)
theorem mw_1232 : (.fieldLink R_To 116 R_To "spelling" "Ljava/lang/String;" : Cond) ∈ nn_gw := nn_at 1232 (by decide +kernel) (by decide +kernel)
theorem d_To_isSpelled_0 : decode b_To_isSpelled 0 = .ok (.aload_n 0, 1) := by decide +kernel
theorem d_To_isSpelled_1 : decode b_To_isSpelled 1 = .ok (.getfield 116, 3) := by decide +kernel
theorem d_To_isSpelled_4 : decode b_To_isSpelled 4 = .ok (.invokevirtual 133, 3) := by decide +kernel
theorem d_To_isSpelled_7 : decode b_To_isSpelled 7 = .ok (.istore 4, 2) := by decide +kernel
theorem d_To_isSpelled_9 : decode b_To_isSpelled 9 = .ok (.iload 4, 2) := by decide +kernel
theorem d_To_isSpelled_11 : decode b_To_isSpelled 11 = .ok (.ifCond .eq 17, 3) := by decide +kernel
theorem d_To_isSpelled_14 : decode b_To_isSpelled 14 = .ok (.iload 4, 2) := by decide +kernel
theorem d_To_isSpelled_16 : decode b_To_isSpelled 16 = .ok (.iload_n 3, 1) := by decide +kernel
theorem d_To_isSpelled_17 : decode b_To_isSpelled 17 = .ok (.iload_n 2, 1) := by decide +kernel
theorem d_To_isSpelled_18 : decode b_To_isSpelled 18 = .ok (.isub, 1) := by decide +kernel
theorem d_To_isSpelled_19 : decode b_To_isSpelled 19 = .ok (.if_icmp .ne 9, 3) := by decide +kernel
theorem d_To_isSpelled_22 : decode b_To_isSpelled 22 = .ok (.iload_n 3, 1) := by decide +kernel
theorem d_To_isSpelled_23 : decode b_To_isSpelled 23 = .ok (.aload_n 1, 1) := by decide +kernel
theorem d_To_isSpelled_24 : decode b_To_isSpelled 24 = .ok (.arraylength, 1) := by decide +kernel
theorem d_To_isSpelled_25 : decode b_To_isSpelled 25 = .ok (.if_icmp .le 5, 3) := by decide +kernel
theorem d_To_isSpelled_28 : decode b_To_isSpelled 28 = .ok (.iconst 0, 1) := by decide +kernel
theorem d_To_isSpelled_29 : decode b_To_isSpelled 29 = .ok (.ireturn, 1) := by decide +kernel
theorem d_To_isSpelled_30 : decode b_To_isSpelled 30 = .ok (.iconst 0, 1) := by decide +kernel
theorem d_To_isSpelled_31 : decode b_To_isSpelled 31 = .ok (.istore 5, 2) := by decide +kernel
theorem d_To_isSpelled_33 : decode b_To_isSpelled 33 = .ok (.iload 5, 2) := by decide +kernel
theorem d_To_isSpelled_35 : decode b_To_isSpelled 35 = .ok (.iload 4, 2) := by decide +kernel
theorem d_To_isSpelled_37 : decode b_To_isSpelled 37 = .ok (.if_icmp .ge 29, 3) := by decide +kernel
theorem d_To_isSpelled_40 : decode b_To_isSpelled 40 = .ok (.aload_n 0, 1) := by decide +kernel
theorem d_To_isSpelled_41 : decode b_To_isSpelled 41 = .ok (.getfield 116, 3) := by decide +kernel
theorem d_To_isSpelled_44 : decode b_To_isSpelled 44 = .ok (.iload 5, 2) := by decide +kernel
theorem d_To_isSpelled_46 : decode b_To_isSpelled 46 = .ok (.invokevirtual 139, 3) := by decide +kernel
theorem d_To_isSpelled_49 : decode b_To_isSpelled 49 = .ok (.aload_n 1, 1) := by decide +kernel
theorem d_To_isSpelled_50 : decode b_To_isSpelled 50 = .ok (.iload_n 2, 1) := by decide +kernel
theorem d_To_isSpelled_51 : decode b_To_isSpelled 51 = .ok (.iload 5, 2) := by decide +kernel
theorem d_To_isSpelled_53 : decode b_To_isSpelled 53 = .ok (.iadd, 1) := by decide +kernel
theorem d_To_isSpelled_54 : decode b_To_isSpelled 54 = .ok (.caload, 1) := by decide +kernel
theorem d_To_isSpelled_55 : decode b_To_isSpelled 55 = .ok (.if_icmp .eq 5, 3) := by decide +kernel
theorem d_To_isSpelled_58 : decode b_To_isSpelled 58 = .ok (.iconst 0, 1) := by decide +kernel
theorem d_To_isSpelled_59 : decode b_To_isSpelled 59 = .ok (.ireturn, 1) := by decide +kernel
theorem d_To_isSpelled_60 : decode b_To_isSpelled 60 = .ok (.iinc 5 1, 3) := by decide +kernel
theorem d_To_isSpelled_63 : decode b_To_isSpelled 63 = .ok (.goto (-30), 3) := by decide +kernel
theorem d_To_isSpelled_66 : decode b_To_isSpelled 66 = .ok (.iconst 1, 1) := by decide +kernel
theorem d_To_isSpelled_67 : decode b_To_isSpelled 67 = .ok (.ireturn, 1) := by decide +kernel

set_option maxHeartbeats 4000000 in
set_option maxRecDepth 100000 in
theorem s_isSpelled (l : Launch) (G : nn_G) (tk : Nat → Nat) (sz : Nat) (k : Nat) (hk : k < 31) (tx : Nat) (tf : Nat → Int32) (a b : Nat) (hab : a ≤ b) (hb8 : b ≤ 180) : Met l y_To_isSpelled w_To_isSpelled ({ frames := 4, cells := 0, slots := 0, locals := 85 }) (nz_PR G tk [.ref (tk k), .ref tx, .int (nI a), .int (nI b)] [(tx, .inl (G.2 1, 180, .inl (tf)))] sz) (vp_Si (fun r => True)) 0 0 (fun _ => False) := by
  refine Met.ofW (cc := b_To_isSpelled) (maxL := 6) (ret := some .boolean) (by decide) rfl ?_
  intro p e s m args below meth c s₁ B hml hv
  obtain ⟨rfl, ⟨hsz, hP, hK, hD0, hN⟩, hE⟩ := hv
  have hx := B.exec
  have hb := B.bytes
  have hr := B.returns
  have hts := atoms_spec (ws := w_To_isSpelled) B.pre
  have hg : ∀ w ∈ nn_gw, w.before _ s = true := fun w h => hts w (List.mem_cons_of_mem _ h)
  have hown : s.vm.findClass R_To = some m.cls := findClass_of_methodNamed B.named
  have hlocks := B.notSynchronized
  subst hsz
  have hD := hD0
  generalize hAe : (fun _ : Nat => True) = A at hD
  have hA : ∀ q : Nat, s.heap.size ≤ q → A q := fun q h => by rw [← hAe]; trivial
  have hSE : va_S (fun _ => False) s.heap s.heap [] := va_S.rf
  have hS : va_S A s.heap s.heap [] := va_S.rf
  have hP : va_P G.1 nn_cls [(tx, .inl (G.2 1, 180, .inl (tf)))] s.heap := hP
  have hl := lv_entry ([.ref (tk k), .ref tx, .int (nI a), .int (nI b)]) (n := 6) (Nat.le_of_ble_eq_true rfl)
  rw [lg_entry_eq]
  generalize (lg_sl ([.ref (tk k), .ref tx, .int (nI a), .int (nI b)]) ++ List.replicate (6 - (lg_sl ([.ref (tk k), .ref tx, .int (nI a), .int (nI b)])).length) Slot.unset).toArray = ls at hl ⊢
  have hl : lv_has ls 6 [(0, .ref (tk k)), (1, .ref tx), (2, .int (nI a)), (3, .int (nI b))] := hl
  refine lv_aload_n hx hb d_To_isSpelled_0 rfl (lv_at hl 0 rfl) ?_
  refine vk_getf hx hb (hE.2.1 k hk).2.2.2.2.1 hSE hown (hg _ mw_1232) (fun _ h9 => h9) d_To_isSpelled_1 ?_
  have hPc := hP.sub (ws' := []) [] rfl
  have hDc := hD.sub (ws' := []) [] (by decide) rfl
  refine vp_callSi (va_Run.run (va_runV (As := []) (rest := []) ⟨hx, hb, hml, hown, hts⟩ (s_length l G tk _ k hk) (cwV 0 hts (nn_gV mw_442 mw_439 mw_440 mw_441 mw_97) rfl rfl rfl (by decide +kernel) ⟨Nat.le_of_ble_eq_true rfl, Nat.le_of_ble_eq_true rfl⟩) (nz_preVR (nz_recvS hE hSE hk) hPc hDc hK hN hE hSE) rfl rfl hl.1 rfl (lv_room (Nat.le_of_ble_eq_true rfl)) d_To_isSpelled_4 ⟨(Nat.le_of_ble_eq_true rfl), (Nat.le_of_ble_eq_true rfl)⟩)) (fun r1 er1 => ?_)
  subst er1
  refine lv_istore (lv' := [(4, .int (nI (tk (141 + k)))), (0, .ref (tk k)), (1, .ref tx), (2, .int (nI a)), (3, .int (nI b))]) hx hb d_To_isSpelled_7 hl (by decide) rfl (fun ls hl => ?_)
  refine lv_iload hx hb d_To_isSpelled_9 (lv_at hl 0 rfl) ?_
  refine lv_if_eq (tgt := 28) hx hb d_To_isSpelled_11 rfl (fun hc11 => ?_) (fun hc11 => ?_)
  · skip
    refine lv_iconst (v := 0) hx hb d_To_isSpelled_28 (by decide) ?_
    exact W.zret (v := 0) hx hb hr (by first | rfl | rfl) (fun t ht hW => ⟨0, rfl, trivial, ht⟩) (fun q h => by cases h) d_To_isSpelled_29
  · skip
    refine lv_iload hx hb d_To_isSpelled_14 (lv_at hl 0 rfl) ?_
    refine lv_iload_n hx hb d_To_isSpelled_16 rfl (lv_at hl 4 rfl) ?_
    refine lv_iload_n hx hb d_To_isSpelled_17 rfl (lv_at hl 3 rfl) ?_
    refine lv_isub hx hb d_To_isSpelled_18 ?_
    refine nb_top (nI (b - a)) (pk_sub (by omega)) ?_
    refine lv_icmp_ne (tgt := 28) hx hb d_To_isSpelled_19 rfl (fun hc19 => ?_) (fun hc19 => ?_)
    · skip
      refine lv_iconst (v := 0) hx hb d_To_isSpelled_28 (by decide) ?_
      exact W.zret (v := 0) hx hb hr (by first | rfl | rfl) (fun t ht hW => ⟨0, rfl, trivial, ht⟩) (fun q h => by cases h) d_To_isSpelled_29
    · skip
      refine lv_iload_n hx hb d_To_isSpelled_22 rfl (lv_at hl 4 rfl) ?_
      refine lv_aload_n hx hb d_To_isSpelled_23 rfl (lv_at hl 2 rfl) ?_
      refine va_alen (v := 180) hx hb hK hP 0 1 rfl rfl rfl d_To_isSpelled_24 ?_
      refine lv_icmp_le (tgt := 30) hx hb d_To_isSpelled_25 rfl (fun _ => ?_) (fun h => absurd (nI_le (b := 180) hb8 (by decide)) h)
      refine lv_iconst (v := 0) hx hb d_To_isSpelled_30 (by decide) ?_
      refine lv_istore (lv' := [(5, .int 0), (4, .int (nI (tk (141 + k)))), (0, .ref (tk k)), (1, .ref tx), (2, .int (nI a)), (3, .int (nI b))]) hx hb d_To_isSpelled_31 hl (by decide) rfl (fun ls hl => ?_)
      have hn : tk (141 + k) = b - a := nz_inj hc19 (by have := (hE.2.1 k hk).2.2.2.2.2.2.2.2.1; omega) (by omega)
      have hn9 := (hE.2.1 k hk).2.2.2.2.2.2.2.2.1
      have hl := lv_sub (l' := [(5, .int 0), (4, .int (nI (tk (141 + k)))), (0, .ref (tk k)), (1, .ref tx), (2, .int (nI a)), (3, .int (nI b))]) hl [0, 1, 2, 3, 4, 5] rfl
      suffices loop : ∀ (j : Nat) (i : Nat) (ls : Array Slot), i + j = tk (141 + k) → lv_has ls 6 [(5, .int (nI i)), (4, .int (nI (tk (141 + k)))), (0, .ref (tk k)), (1, .ref tx), (2, .int (nI a)), (3, .int (nI b))] → W p l e (headSpec w_To_isSpelled ({ frames := 4, cells := 0, slots := 0, locals := 85 })).room s m [.ref (tk k), .ref tx, .int (nI a), .int (nI b)].toArray below meth c s.heap [] 0 0 (MQ below (vp_Si (fun r => True)) [.ref (tk k), .ref tx, .int (nI a), .int (nI b)].toArray s 0 0 (fun _ => False)) (F0 m 33 ls []) by
        exact loop (tk (141 + k)) 0 ls (by omega) hl
      intro j
      induction j with
      | zero =>
        intro i ls hij hl
        refine lv_iload hx hb d_To_isSpelled_33 (lv_at hl 0 rfl) ?_
        refine lv_iload hx hb d_To_isSpelled_35 (lv_at hl 1 rfl) ?_
        refine lv_icmp_ge (tgt := 66) hx hb d_To_isSpelled_37 rfl (fun _ => ?_) (fun h => absurd (nI_le (by omega) (by omega)) h)
        refine lv_iconst (v := 1) hx hb d_To_isSpelled_66 (by decide) ?_
        exact W.zret (v := 1) hx hb hr (by first | rfl | rfl) (fun t ht hW => ⟨1, rfl, trivial, ht⟩) (fun q h => by cases h) d_To_isSpelled_67
      | succ j ih =>
        intro i ls hij hl
        refine lv_iload hx hb d_To_isSpelled_33 (lv_at hl 0 rfl) ?_
        refine lv_iload hx hb d_To_isSpelled_35 (lv_at hl 1 rfl) ?_
        refine lv_icmp_ge (tgt := 66) hx hb d_To_isSpelled_37 rfl (fun h => absurd h (nI_ge (by omega) (by omega))) (fun _ => ?_)
        refine lv_aload_n hx hb d_To_isSpelled_40 rfl (lv_at hl 2 rfl) ?_
        refine vk_getf hx hb (hE.2.1 k hk).2.2.2.2.1 hSE hown (hg _ mw_1232) (fun _ h9 => h9) d_To_isSpelled_41 ?_
        refine lv_iload hx hb d_To_isSpelled_44 (lv_at hl 0 rfl) ?_
        have hPc := hP.sub (ws' := []) [] rfl
        have hDc := hD.sub (ws' := []) [] (by decide) rfl
        refine vp_callSi (va_Run.run (va_runV (As := [.int (nI i)]) (rest := []) ⟨hx, hb, hml, hown, hts⟩ (s_charAt l G tk _ k hk i (by omega)) (cwV 1 hts (nn_gV mw_452 mw_449 mw_450 mw_451 mw_97) rfl rfl rfl (by decide +kernel) ⟨Nat.le_of_ble_eq_true rfl, Nat.le_of_ble_eq_true rfl⟩) (nz_preVR (nz_recvS hE hSE hk) hPc hDc hK hN hE hSE) rfl rfl hl.1 rfl (lv_room (Nat.le_of_ble_eq_true rfl)) d_To_isSpelled_46 ⟨(Nat.le_of_ble_eq_true rfl), (Nat.le_of_ble_eq_true rfl)⟩)) (fun r2 er2 => ?_)
        refine lv_aload_n hx hb d_To_isSpelled_49 rfl (lv_at hl 3 rfl) ?_
        refine lv_iload_n hx hb d_To_isSpelled_50 rfl (lv_at hl 4 rfl) ?_
        refine lv_iload hx hb d_To_isSpelled_51 (lv_at hl 0 rfl) ?_
        refine lv_iadd hx hb d_To_isSpelled_53 ?_
        refine nb_top (nI (a + i)) (nz_add a i) ?_
        refine va_cald hx hb hK hP 0 1 rfl rfl (vp_in_nI (by omega) (by decide)) d_To_isSpelled_54 ?_
        refine lv_icmp_eq (tgt := 60) hx hb d_To_isSpelled_55 rfl (fun hc55 => ?_) (fun hc55 => ?_)
        · skip
          refine lv_iinc (k := 0) (v := nI (i + 1)) (lv' := [(5, .int (nI (i + 1))), (4, .int (nI (tk (141 + k)))), (0, .ref (tk k)), (1, .ref tx), (2, .int (nI a)), (3, .int (nI b))]) hx hb d_To_isSpelled_60 hl rfl ((nI_succ i).symm) (by decide) rfl (fun ls hl => ?_)
          refine lv_goto (tgt := 33) hx hb d_To_isSpelled_63 rfl ?_
          have hl := lv_sub (l' := [(5, .int (nI (i + 1))), (4, .int (nI (tk (141 + k)))), (0, .ref (tk k)), (1, .ref tx), (2, .int (nI a)), (3, .int (nI b))]) hl [0, 1, 2, 3, 4, 5] rfl
          exact ih (i + 1) ls (by omega) hl
        · skip
          refine lv_iconst (v := 0) hx hb d_To_isSpelled_58 (by decide) ?_
          exact W.zret (v := 0) hx hb hr (by first | rfl | rfl) (fun t ht hW => ⟨0, rfl, trivial, ht⟩) (fun q h => by cases h) d_To_isSpelled_59

theorem mw_4 : (.selects R_To y_To_isSpelled y_To_isSpelled : Cond) ∈ nn_gw := nn_at 4 (by decide +kernel) (by decide +kernel)
theorem mw_96 : (.initialized R_To : Cond) ∈ nn_gw := nn_at 96 (by decide +kernel) (by decide +kernel)
theorem mw_432 : (.fieldLink R_To 126 R_To "ALL" "[LNestPascal$Token;" : Cond) ∈ nn_gw := nn_at 432 (by decide +kernel) (by decide +kernel)
theorem mw_434 : (.methodLink R_To 129 y_To_isSpelled : Cond) ∈ nn_gw := nn_at 434 (by decide +kernel) (by decide +kernel)
theorem mw_436 : (.instanceMethod y_To_isSpelled : Cond) ∈ nn_gw := nn_at 436 (by decide +kernel) (by decide +kernel)
theorem mw_438 : (.code y_To_isSpelled b_To_isSpelled 6 (some .boolean) : Cond) ∈ nn_gw := nn_at 438 (by decide +kernel) (by decide +kernel)
theorem mw_487 : (.fieldLink R_To 94 R_To "NO_TOKEN" "LNestPascal$Token;" : Cond) ∈ nn_gw := nn_at 487 (by decide +kernel) (by decide +kernel)
theorem d_To_spelled_0 : decode b_To_spelled 0 = .ok (.iconst 0, 1) := by decide +kernel
theorem d_To_spelled_1 : decode b_To_spelled 1 = .ok (.istore_n 3, 1) := by decide +kernel
theorem d_To_spelled_2 : decode b_To_spelled 2 = .ok (.iload_n 3, 1) := by decide +kernel
theorem d_To_spelled_3 : decode b_To_spelled 3 = .ok (.getstatic 126, 3) := by decide +kernel
theorem d_To_spelled_6 : decode b_To_spelled 6 = .ok (.arraylength, 1) := by decide +kernel
theorem d_To_spelled_7 : decode b_To_spelled 7 = .ok (.if_icmp .ge 29, 3) := by decide +kernel
theorem d_To_spelled_10 : decode b_To_spelled 10 = .ok (.getstatic 126, 3) := by decide +kernel
theorem d_To_spelled_13 : decode b_To_spelled 13 = .ok (.iload_n 3, 1) := by decide +kernel
theorem d_To_spelled_14 : decode b_To_spelled 14 = .ok (.aaload, 1) := by decide +kernel
theorem d_To_spelled_15 : decode b_To_spelled 15 = .ok (.aload_n 0, 1) := by decide +kernel
theorem d_To_spelled_16 : decode b_To_spelled 16 = .ok (.iload_n 1, 1) := by decide +kernel
theorem d_To_spelled_17 : decode b_To_spelled 17 = .ok (.iload_n 2, 1) := by decide +kernel
theorem d_To_spelled_18 : decode b_To_spelled 18 = .ok (.invokevirtual 129, 3) := by decide +kernel
theorem d_To_spelled_21 : decode b_To_spelled 21 = .ok (.ifCond .eq 9, 3) := by decide +kernel
theorem d_To_spelled_24 : decode b_To_spelled 24 = .ok (.getstatic 126, 3) := by decide +kernel
theorem d_To_spelled_27 : decode b_To_spelled 27 = .ok (.iload_n 3, 1) := by decide +kernel
theorem d_To_spelled_28 : decode b_To_spelled 28 = .ok (.aaload, 1) := by decide +kernel
theorem d_To_spelled_29 : decode b_To_spelled 29 = .ok (.areturn, 1) := by decide +kernel
theorem d_To_spelled_30 : decode b_To_spelled 30 = .ok (.iinc 3 1, 3) := by decide +kernel
theorem d_To_spelled_33 : decode b_To_spelled 33 = .ok (.goto (-31), 3) := by decide +kernel
theorem d_To_spelled_36 : decode b_To_spelled 36 = .ok (.getstatic 94, 3) := by decide +kernel
theorem d_To_spelled_39 : decode b_To_spelled 39 = .ok (.areturn, 1) := by decide +kernel

set_option maxHeartbeats 4000000 in
set_option maxRecDepth 100000 in
theorem s_spelled (l : Launch) (G : nn_G) (tk : Nat → Nat) (sz : Nat) (tx : Nat) (tf : Nat → Int32) (a b : Nat) (hab : a ≤ b) (hb8 : b ≤ 180) : Met l y_To_spelled w_To_spelled ({ frames := 5, cells := 0, slots := 0, locals := 110 }) (nz_PR G tk [.ref tx, .int (nI a), .int (nI b)] [(tx, .inl (G.2 1, 180, .inl (tf)))] sz) (va_Sr (fun k => k < 31) (fun k => .ref (tk k))) 0 0 (fun _ => False) := by
  refine Met.ofW (cc := b_To_spelled) (maxL := 4) (ret := some (.object "NestPascal$Token")) (by decide) rfl ?_
  intro p e s m args below meth c s₁ B hml hv
  obtain ⟨rfl, ⟨hsz, hP, hK, hD0, hN⟩, hE⟩ := hv
  have hx := B.exec
  have hb := B.bytes
  have hr := B.returns
  have hts := atoms_spec (ws := w_To_spelled) B.pre
  have hg : ∀ w ∈ nn_gw, w.before _ s = true := fun w h => hts w (List.mem_cons_of_mem _ h)
  have hown : s.vm.findClass R_To = some m.cls := findClass_of_methodNamed B.named
  have hlocks := B.notSynchronized
  subst hsz
  have hD := hD0
  generalize hAe : (fun _ : Nat => True) = A at hD
  have hA : ∀ q : Nat, s.heap.size ≤ q → A q := fun q h => by rw [← hAe]; trivial
  have hSE : va_S (fun _ => False) s.heap s.heap [] := va_S.rf
  have hS : va_S A s.heap s.heap [] := va_S.rf
  have hP : va_P G.1 nn_cls [(tx, .inl (G.2 1, 180, .inl (tf)))] s.heap := hP
  have hl := lv_entry ([.ref tx, .int (nI a), .int (nI b)]) (n := 4) (Nat.le_of_ble_eq_true rfl)
  rw [lg_entry_eq]
  generalize (lg_sl ([.ref tx, .int (nI a), .int (nI b)]) ++ List.replicate (4 - (lg_sl ([.ref tx, .int (nI a), .int (nI b)])).length) Slot.unset).toArray = ls at hl ⊢
  have hl : lv_has ls 4 [(0, .ref tx), (1, .int (nI a)), (2, .int (nI b))] := hl
  refine lv_iconst (v := 0) hx hb d_To_spelled_0 (by decide) ?_
  refine lv_istore_n (lv' := [(3, .int 0), (0, .ref tx), (1, .int (nI a)), (2, .int (nI b))]) hx hb d_To_spelled_1 rfl hl (by decide) rfl (fun ls hl => ?_)
  have hl := lv_sub (l' := [(3, .int 0), (0, .ref tx), (1, .int (nI a)), (2, .int (nI b))]) hl [0, 1, 2, 3] rfl
  suffices loop : ∀ (j : Nat) (i : Nat) (ls : Array Slot), i + j = 31 → lv_has ls 4 [(3, .int (nI i)), (0, .ref tx), (1, .int (nI a)), (2, .int (nI b))] → W p l e (headSpec w_To_spelled ({ frames := 5, cells := 0, slots := 0, locals := 110 })).room s m [.ref tx, .int (nI a), .int (nI b)].toArray below meth c s.heap [] 0 0 (MQ below (va_Sr (fun k => k < 31) (fun k => .ref (tk k))) [.ref tx, .int (nI a), .int (nI b)].toArray s 0 0 (fun _ => False)) (F0 m 2 ls []) by
    exact loop 31 0 ls (by omega) hl
  intro j
  induction j with
  | zero =>
    intro i ls hij hl
    refine lv_iload_n hx hb d_To_spelled_2 rfl (lv_at hl 0 rfl) ?_
    refine va_gets hx hb hE.2.2.1.1 hSE hown (hg _ mw_432) (fun _ h9 => h9) d_To_spelled_3 ?_
    refine va_tlen (v := 31) hx hb hE.2.2.1.2 hSE rfl d_To_spelled_6 ?_
    refine lv_icmp_ge (tgt := 36) hx hb d_To_spelled_7 rfl (fun _ => ?_) (fun h => absurd (nI_le (a := 31) (by omega) (by omega)) h)
    refine va_gets hx hb (hE.2.1 30 (by decide)).1 hSE hown (hg _ mw_487) (fun _ h9 => h9) d_To_spelled_36 ?_
    exact W.aret (v := .ref (tk 30)) hx hb hr (Or.inl ⟨_, rfl⟩) (Or.inr ⟨_, rfl⟩) (fun t ht hW => ⟨30, rfl, (by decide), ht⟩) (fun q h => by cases h) d_To_spelled_39
  | succ j ih =>
    intro i ls hij hl
    have hi : i < 31 := by omega
    refine lv_iload_n hx hb d_To_spelled_2 rfl (lv_at hl 0 rfl) ?_
    refine va_gets hx hb hE.2.2.1.1 hSE hown (hg _ mw_432) (fun _ h9 => h9) d_To_spelled_3 ?_
    refine va_tlen (v := 31) hx hb hE.2.2.1.2 hSE rfl d_To_spelled_6 ?_
    refine lv_icmp_ge (tgt := 36) hx hb d_To_spelled_7 rfl (fun h => absurd h (nI_ge (b := 31) (by omega) (by decide))) (fun _ => ?_)
    refine va_gets hx hb hE.2.2.1.1 hSE hown (hg _ mw_432) (fun _ h9 => h9) d_To_spelled_10 ?_
    refine lv_iload_n hx hb d_To_spelled_13 rfl (lv_at hl 0 rfl) ?_
    refine vb_tq (v := .ref (tk i)) hx hb hE.2.2.1.2 hSE (vp_in_nI (by omega) (by decide)) (by rw [nI_clamp (by omega)]) d_To_spelled_14 ?_
    refine lv_aload_n hx hb d_To_spelled_15 rfl (lv_at hl 1 rfl) ?_
    refine lv_iload_n hx hb d_To_spelled_16 rfl (lv_at hl 2 rfl) ?_
    refine lv_iload_n hx hb d_To_spelled_17 rfl (lv_at hl 3 rfl) ?_
    have hPc := hP.sub (ws' := [(tx, .inl (G.2 1, 180, .inl (tf)))]) [0] rfl
    have hDc := hD.sub (ws' := [(tx, .inl (G.2 1, 180, .inl (tf)))]) [0] (by decide) rfl
    refine vp_callSi (va_Run.run (va_runV (As := [.ref tx, .int (nI a), .int (nI b)]) (rest := []) ⟨hx, hb, hml, hown, hts⟩ (s_isSpelled l G tk _ i hi tx tf a b hab hb8) (cwV 3 hts (nn_gV mw_438 mw_434 mw_436 mw_4 mw_96) rfl rfl rfl (by decide +kernel) ⟨Nat.le_of_ble_eq_true rfl, Nat.le_of_ble_eq_true rfl⟩) (nz_preVR (nz_recv hE hSE hi) hPc hDc hK hN hE hSE) rfl rfl hl.1 rfl (lv_room (Nat.le_of_ble_eq_true rfl)) d_To_spelled_18 ⟨(Nat.le_of_ble_eq_true rfl), (Nat.le_of_ble_eq_true rfl)⟩)) (fun r2 er2 => ?_)
    refine lv_if_eq (tgt := 30) hx hb d_To_spelled_21 rfl (fun hc21 => ?_) (fun hc21 => ?_)
    · skip
      refine lv_iinc (k := 0) (v := nI (i + 1)) (lv' := [(3, .int (nI (i + 1))), (0, .ref tx), (1, .int (nI a)), (2, .int (nI b))]) hx hb d_To_spelled_30 hl rfl ((nI_succ i).symm) (by decide) rfl (fun ls hl => ?_)
      refine lv_goto (tgt := 2) hx hb d_To_spelled_33 rfl ?_
      have hl := lv_sub (l' := [(3, .int (nI (i + 1))), (0, .ref tx), (1, .int (nI a)), (2, .int (nI b))]) hl [0, 1, 2, 3] rfl
      exact ih (i + 1) ls (by omega) hl
    · skip
      refine va_gets hx hb hE.2.2.1.1 hSE hown (hg _ mw_432) (fun _ h9 => h9) d_To_spelled_24 ?_
      refine lv_iload_n hx hb d_To_spelled_27 rfl (lv_at hl 0 rfl) ?_
      refine vb_tq (v := .ref (tk i)) hx hb hE.2.2.1.2 hSE (vp_in_nI (by omega) (by decide)) (by rw [nI_clamp (by omega)]) d_To_spelled_28 ?_
      exact W.aret (v := .ref (tk i)) hx hb hr (Or.inl ⟨_, rfl⟩) (Or.inr ⟨_, rfl⟩) (fun t ht hW => ⟨i, rfl, hi, ht⟩) (fun q h => by cases h) d_To_spelled_29
