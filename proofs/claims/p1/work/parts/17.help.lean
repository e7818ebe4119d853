/-! contracts (by wip/p1/gen.py) -/
/-! the law's helpers: methods with one entry in their table of handlers -/
theorem nt_tab {p : Program} {l : Launch} {x : MethodName} {S : Spec} {bc : ByteArray} {n : Nat} {rt : Option FieldType} {e : Env} {s : State} {m : MethodId} {args : Array Value} {below : List Frame} {meth : Method} {c : Code} {s₁ : State} {h1 h2 h3 h4 : Nat}
    (B : BodyLoose p l x S bc n rt e s m args below meth c s₁) (h : (Cond.codeWith x bc n rt [(h1, h2, h3, h4)]).before args s = true) : ∃ x0 : ExceptionTableEntry, c.exceptionTable.toList = [x0] ∧ x0.startPc = h1 ∧ x0.endPc = h2 ∧ x0.handlerPc = h3 ∧ x0.catchType = h4 := by
  obtain ⟨m', meth', c', hn', hm', hc', -, -, ht, -⟩ := Cond.codeWith_spec h
  cases B.named.symm.trans hn'
  cases B.method.symm.trans hm'
  cases (Stand.of_body B).code.symm.trans hc'
  match hl : c.exceptionTable.toList, ht with
  | [x0], ht =>
    simp only [List.map_cons, List.map_nil, List.cons.injEq, Prod.mk.injEq, and_true] at ht
    exact ⟨x0, rfl, ht.1, ht.2.1, ht.2.2.1, ht.2.2.2⟩
abbrev w_La_compile : List Cond := .codeWith y_La_compile b_La_compile 3 (some .int) [(0, 8, 11, 13)] :: nn_gw
abbrev w_La_run : List Cond := .codeWith y_La_run b_La_run 4 (some .int) [(0, 9, 12, 13)] :: nn_gw
section NT3
variable {p : Program} {l : Launch} {e : Env} {R : Room} {s : State} {m : MethodId} {args : Array Value} {below : List Frame} {meth : Method} {c : Code} {H : Heap} {locs : List Loc} {cells slots : Nat}
/-- a static call of a method that has handlers -/
theorem nt_runSW {y : MethodName} {bytes cc : ByteArray} {maxL nL mc ms n index : Nat} {ret : Option FieldType} {hh : List (Nat × Nat × Nat × Nat)} {rm : Room} {Pc : Array Value → State → Prop} {Qc : Array Value → State → Outcome → State → Prop} {free : Addr → Prop} {c1 : Cond} {own : String} {As rest : List Value} {g : JFrame}
    (S : CallFix p m c cc nL s args (c1 :: nn_gw) own) (hM : Met l y (Cond.codeWith y bytes maxL ret hh :: nn_gw) rm Pc Qc mc ms free) (hrc : rm.cells = mc) (hrs : rm.slots = ms) (hR : rm.frames + 1 ≤ R.frames ∧ 8 + (maxL + 11) + rm.locals ≤ R.locals)
    (hcm : Cond.codeWith y bytes maxL ret hh ∈ nn_gw) (hlm : Cond.methodLink own index y ∈ nn_gw) (hsm : Cond.static y ∈ nn_gw) (him : Cond.initialized y.cls ∈ nn_gw)
    (hd : y.cls ≠ "java/lang/invoke/MethodHandle" ∧ y.cls ≠ "java/lang/invoke/VarHandle" ∧ (parseMethodDescriptor y.desc).map (fun d => d.parameters.length) = some n) (hp : PreS s H Pc As)
    (hg : g.method = m) (hn : As.length = n) (hsize : g.locals.size = nL) (hstack : g.stack = As.reverse ++ rest) (hW : 2 * g.monitorRoom + (rest.map fun v => v.category).sum ≤ 8) (hdg : decode cc g.pc = .ok (.invokestatic index, 3)) (hf : cells + mc ≤ R.cells ∧ slots + ms ≤ R.slots) :
    va_Run p l e R s m args below meth c H locs cells slots mc ms g rest (Qc As.toArray) free := by
  obtain ⟨hx, hb, hml, ho, hts⟩ := S
  have hgw : ∀ w ∈ nn_gw, w.before args s = true := fun w h => hts w (List.mem_cons_of_mem _ h)
  have hcode := hgw _ hcm
  have hini := hgw _ him
  have hws : ∀ w ∈ (Cond.codeWith y bytes maxL ret hh :: nn_gw), ∀ (a' : Array Value) (U : State), s.WarmedH U.vm → w.before a' U = true := pay_in hts (nn_gd hcm)
  have hK : Back l R p e below s args y 3 8 (PreOf R mc ms Pc) (PostOf Qc mc ms free) := va_backW (hh := hh) hM hp.1 hrc hrs hR.1 hR.2 hws List.mem_cons_self (fun a' U hW => word_at hW (Or.inl (by first | rfl | simp [Cond.onTables, Cond.keeps, Cond.steady])) hini)
  intro T hT X
  obtain ⟨mk, methM, cM, hnamed, hmethM, -, -, -, -, -, -, hsigM⟩ := Cond.codeWith_spec hcode
  have hstatic : methM.isStatic = true := Cond.static_spec hnamed hmethM (hgw _ hsm)
  obtain ⟨kP, hkP, -⟩ := className_of_methodNamed hnamed
  have hinitP : kP.init = .initialized := Cond.initialized_spec (findClass_of_methodNamed hnamed) hkP hini
  have hlenM : As.length = methM.sig.parameters.length := by
    have h2 := hd.2.2
    rw [hsigM] at h2
    exact hn.trans (Option.some.inj h2).symm
  obtain ⟨vm₁, X₁, hstep₁⟩ := X.invokestatic hx ho (hgw _ hlm) hnamed hmethM hstatic hkP hinitP ⟨hd.1, hd.2.1⟩ (g := g) hg (argsL := As) (rest := rest) hlenM hstack (by rw [hb]; exact hdg)
  obtain ⟨v, B, X', hpost, hsteps⟩ := hK m meth c ⟨T.setVm vm₁, locs, cells, slots⟩ { g with stack := rest } (.invokestatic index) mk As.toArray X₁ hg (hsize.trans hml.symm) (by rw [hb]; exact hdg) hW (X₁.named hnamed) ⟨hf.1, hf.2, hp.2 (T.setVm vm₁) hT X₁.warmed⟩
  obtain ⟨U', l2, c2, s2⟩ := B
  obtain ⟨g', mk', t, L, e1, e2, hq, h1, hL, h2, h3⟩ := hpost
  dsimp only [Pt.U, Pt.locs, Pt.cells, Pt.slots] at X' e1 e2 h1 h2 h3 hsteps
  subst h1; subst h2; subst h3
  exact ⟨v, (T.setVm vm₁).calling g' mk' As.toArray, t, U', L, hT, X', hL, e1, e2, hq, fun tg h => hstep₁ _ fun acts => by rw [doInvoke_state]; exact hsteps.trans h⟩
end NT3

theorem mw_824 : (.classLink R_NP 84 "java/lang/IllegalArgumentException" : Cond) ∈ nn_gw := nn_at 824 (by decide +kernel) (by decide +kernel)
theorem d_NP_run_11 : decode b_NP_run 11 = .ok (.new 84, 3) := by decide +kernel
theorem d_NP_run_14 : decode b_NP_run 14 = .ok (.dup, 1) := by decide +kernel
theorem d_NP_run_15 : decode b_NP_run 15 = .ok (.invokespecial 86, 3) := by decide +kernel
theorem d_NP_run_18 : decode b_NP_run 18 = .ok (.athrow, 1) := by decide +kernel

set_option maxHeartbeats 4000000 in
set_option maxRecDepth 100000 in
theorem c_NP_run1 (l : Launch) (hfl : l.flags = flags0) (G : nn_G) (tk : Nat → Nat) (sz : Nat) (h0 y1 y2 y3 y4 : Nat) (n : Int32) (hn : n < 0 ∨ ¬ n ≤ 200) : nt_Met l y_NP_run w_NP_run ({ frames := 6, cells := 1, slots := 6, locals := 200 }) (ns_P G tk [.ref h0, .int n] [(h0, .inr (0, [.ref y1, .int 0, .ref y2, .ref y3, .ref y4]))] sz) 1 6 (va_A [(h0, .inr (0, [.ref y1, .int 0, .ref y2, .ref y3, .ref y4]))] sz) := by
  refine nt_ofW (cc := b_NP_run) (maxL := 3) (ret := some .int) (by decide) rfl ?_
  intro p e s m args below meth c s₁ B hml hv
  obtain ⟨rfl, ⟨hsz, hP, hK, hD0, hN⟩, hE⟩ := hv
  have hx := B.exec
  have hb := B.bytes
  have hr := B.returns
  have hts := atoms_spec (ws := w_NP_run) B.pre
  have hg : ∀ w ∈ nn_gw, w.before _ s = true := fun w h => hts w (List.mem_cons_of_mem _ h)
  have hown : s.vm.findClass R_NP = some m.cls := findClass_of_methodNamed B.named
  have hlocks := B.notSynchronized
  have hnh : c.exceptionTable.isEmpty = true := B.noHandlers (hts _ List.mem_cons_self)
  subst hsz
  have hD := hD0.self (sz := s.heap.size)
  generalize hAe : va_A [(h0, .inr (0, [.ref y1, .int 0, .ref y2, .ref y3, .ref y4]))] s.heap.size = A at hD hE ⊢
  have hA : ∀ q : Nat, s.heap.size ≤ q → A q := fun q h => by rw [← hAe]; exact Or.inr h
  have hS : va_S A s.heap s.heap [] := va_S.rf
  have hP : va_P G.1 nn_cls [(h0, .inr (0, [.ref y1, .int 0, .ref y2, .ref y3, .ref y4]))] s.heap := hP
  have hP0 := hP
  have hl := lv_entry ([.ref h0, .int n]) (n := 3) (Nat.le_of_ble_eq_true rfl)
  rw [lg_entry_eq]
  generalize (lg_sl ([.ref h0, .int n]) ++ List.replicate (3 - (lg_sl ([.ref h0, .int n])).length) Slot.unset).toArray = ls at hl ⊢
  have hl : lv_has ls 3 [(0, .ref h0), (1, .int n)] := hl
  refine lv_iload_n hx hb d_NP_run_0 rfl (lv_at hl 1 rfl) ?_
  refine lv_if_lt (tgt := 11) hx hb d_NP_run_1 rfl (fun hc1 => ?_) (fun hc1 => ?_)
  · skip
    exact nt_throw (nL := 3) hx hb hml hl.1 hfl hown (hg _ mw_824) (hg _ mw_105) (ns_own2 hg hE) (ns_st hP0 hAe hS.2.2) hS.1 d_NP_run_11 d_NP_run_14 d_NP_run_15 d_NP_run_18 (by decide) (by decide) (Nat.le_of_ble_eq_true rfl) (Nat.le_of_ble_eq_true rfl) hnh hlocks hS.2.2
  · skip
    refine lv_iload_n hx hb d_NP_run_4 rfl (lv_at hl 1 rfl) ?_
    refine lv_sipush (v := 200) hx hb d_NP_run_5 (by decide) ?_
    refine lv_icmp_le (tgt := 19) hx hb d_NP_run_8 rfl (fun h => absurd h (hn.resolve_left hc1)) (fun _ => ?_)
    exact nt_throw (nL := 3) hx hb hml hl.1 hfl hown (hg _ mw_824) (hg _ mw_105) (ns_own2 hg hE) (ns_st hP0 hAe hS.2.2) hS.1 d_NP_run_11 d_NP_run_14 d_NP_run_15 d_NP_run_18 (by decide) (by decide) (Nat.le_of_ble_eq_true rfl) (Nat.le_of_ble_eq_true rfl) hnh hlocks hS.2.2

theorem mw_392 : (.classLink R_La 13 "java/lang/IllegalArgumentException" : Cond) ∈ nn_gw := nn_at 392 (by decide +kernel) (by decide +kernel)
theorem mw_393 : (.methodLink R_La 7 y_NP_compile : Cond) ∈ nn_gw := nn_at 393 (by decide +kernel) (by decide +kernel)
theorem mw_394 : (.instanceMethod y_NP_compile : Cond) ∈ nn_gw := nn_at 394 (by decide +kernel) (by decide +kernel)
theorem mw_395 : (.selects R_NP y_NP_compile y_NP_compile : Cond) ∈ nn_gw := nn_at 395 (by decide +kernel) (by decide +kernel)
theorem mw_396 : (.code y_NP_compile b_NP_compile 2 (some .int) : Cond) ∈ nn_gw := nn_at 396 (by decide +kernel) (by decide +kernel)
theorem d_La_compile_0 : decode b_La_compile 0 = .ok (.aload_n 1, 1) := by decide +kernel
theorem d_La_compile_1 : decode b_La_compile 1 = .ok (.iconst 0, 1) := by decide +kernel
theorem d_La_compile_2 : decode b_La_compile 2 = .ok (.aload_n 0, 1) := by decide +kernel
theorem d_La_compile_3 : decode b_La_compile 3 = .ok (.invokevirtual 7, 3) := by decide +kernel
theorem d_La_compile_11 : decode b_La_compile 11 = .ok (.astore_n 2, 1) := by decide +kernel
theorem d_La_compile_12 : decode b_La_compile 12 = .ok (.iconst 1, 1) := by decide +kernel
theorem d_La_compile_13 : decode b_La_compile 13 = .ok (.ireturn, 1) := by decide +kernel

set_option maxHeartbeats 4000000 in
set_option maxRecDepth 100000 in
theorem c_La_compile (l : Launch) (hfl : l.flags = flags0) (G : nn_G) (tk : Nat → Nat) (sz : Nat) (h0 y1 y2 y3 y4 t1 t2 t3 t4 n1 n2 n3 m1 m2 m3 m4 o1 : Nat) : Met l y_La_compile w_La_compile ({ frames := 11, cells := 1, slots := 6, locals := 310 }) (ns_P G tk [.ref h0, .ref o1] [(h0, .inr (0, [.ref y1, .int 0, .ref y2, .ref y3, .ref y4])), (y1, .inl (G.2 1, 180, .inl (fun _ => 0))), (y2, .inr (2, [.ref t1, .ref n1, .ref m1, .int 0, .int (-1), .int (-1)])), (t1, .inr (6, [.ref t2, .ref t3, .ref t4, .int 0, .int 0])), (t2, .inl (G.2 3, 181, .inr (.inr (.inr (.inr (fun _ => none)))))), (t3, .inl (G.2 0, 181, .inl (fun _ => 0))), (t4, .inl (G.2 0, 181, .inl (fun _ => 0))), (n1, .inr (5, [.ref n2, .int 0, .ref n3, .int 0])), (n3, .inl (G.2 0, 5, .inl (fun _ => 0))), (m1, .inr (1, [.ref m2, .ref m3, .ref m4, .int 0])), (m2, .inl (G.2 0, 180, .inl (fun _ => 0))), (m3, .inl (G.2 0, 180, .inl (fun _ => 0))), (m4, .inl (G.2 0, 180, .inl (fun _ => 0))), (o1, .inl (G.2 2, 1, .inr (.inl (fun _ => 0))))] sz) (va_Qi (fun (r : Int32) (u : Unit) => r = 1) (fun u t => True) (va_A [(h0, .inr (0, [.ref y1, .int 0, .ref y2, .ref y3, .ref y4])), (y1, .inl (G.2 1, 180, .inl (fun _ => 0))), (y2, .inr (2, [.ref t1, .ref n1, .ref m1, .int 0, .int (-1), .int (-1)])), (t1, .inr (6, [.ref t2, .ref t3, .ref t4, .int 0, .int 0])), (t2, .inl (G.2 3, 181, .inr (.inr (.inr (.inr (fun _ => none)))))), (t3, .inl (G.2 0, 181, .inl (fun _ => 0))), (t4, .inl (G.2 0, 181, .inl (fun _ => 0))), (n1, .inr (5, [.ref n2, .int 0, .ref n3, .int 0])), (n3, .inl (G.2 0, 5, .inl (fun _ => 0))), (m1, .inr (1, [.ref m2, .ref m3, .ref m4, .int 0])), (m2, .inl (G.2 0, 180, .inl (fun _ => 0))), (m3, .inl (G.2 0, 180, .inl (fun _ => 0))), (m4, .inl (G.2 0, 180, .inl (fun _ => 0))), (o1, .inl (G.2 2, 1, .inr (.inl (fun _ => 0))))] sz)) 1 6 (va_A [(h0, .inr (0, [.ref y1, .int 0, .ref y2, .ref y3, .ref y4])), (y1, .inl (G.2 1, 180, .inl (fun _ => 0))), (y2, .inr (2, [.ref t1, .ref n1, .ref m1, .int 0, .int (-1), .int (-1)])), (t1, .inr (6, [.ref t2, .ref t3, .ref t4, .int 0, .int 0])), (t2, .inl (G.2 3, 181, .inr (.inr (.inr (.inr (fun _ => none)))))), (t3, .inl (G.2 0, 181, .inl (fun _ => 0))), (t4, .inl (G.2 0, 181, .inl (fun _ => 0))), (n1, .inr (5, [.ref n2, .int 0, .ref n3, .int 0])), (n3, .inl (G.2 0, 5, .inl (fun _ => 0))), (m1, .inr (1, [.ref m2, .ref m3, .ref m4, .int 0])), (m2, .inl (G.2 0, 180, .inl (fun _ => 0))), (m3, .inl (G.2 0, 180, .inl (fun _ => 0))), (m4, .inl (G.2 0, 180, .inl (fun _ => 0))), (o1, .inl (G.2 2, 1, .inr (.inl (fun _ => 0))))] sz) := by
  refine va_MetW (cc := b_La_compile) (maxL := 3) (ret := some .int) (hh := [(0, 8, 11, 13)]) (by decide) rfl ?_
  intro p e s m args below meth c s₁ B hml hv
  obtain ⟨rfl, ⟨hsz, hP, hK, hD0, hN⟩, hE⟩ := hv
  have hx := B.exec
  have hb := B.bytes
  have hr := B.returns
  have hts := atoms_spec (ws := w_La_compile) B.pre
  have hg : ∀ w ∈ nn_gw, w.before _ s = true := fun w h => hts w (List.mem_cons_of_mem _ h)
  have hown : s.vm.findClass R_La = some m.cls := findClass_of_methodNamed B.named
  have hlocks := B.notSynchronized
  obtain ⟨x0, htab, hs1, hs2, hs3, hs4⟩ := nt_tab B (hts _ List.mem_cons_self)
  subst hsz
  have hD := hD0.self (sz := s.heap.size)
  generalize hAe : va_A [(h0, .inr (0, [.ref y1, .int 0, .ref y2, .ref y3, .ref y4])), (y1, .inl (G.2 1, 180, .inl (fun _ => 0))), (y2, .inr (2, [.ref t1, .ref n1, .ref m1, .int 0, .int (-1), .int (-1)])), (t1, .inr (6, [.ref t2, .ref t3, .ref t4, .int 0, .int 0])), (t2, .inl (G.2 3, 181, .inr (.inr (.inr (.inr (fun _ => none)))))), (t3, .inl (G.2 0, 181, .inl (fun _ => 0))), (t4, .inl (G.2 0, 181, .inl (fun _ => 0))), (n1, .inr (5, [.ref n2, .int 0, .ref n3, .int 0])), (n3, .inl (G.2 0, 5, .inl (fun _ => 0))), (m1, .inr (1, [.ref m2, .ref m3, .ref m4, .int 0])), (m2, .inl (G.2 0, 180, .inl (fun _ => 0))), (m3, .inl (G.2 0, 180, .inl (fun _ => 0))), (m4, .inl (G.2 0, 180, .inl (fun _ => 0))), (o1, .inl (G.2 2, 1, .inr (.inl (fun _ => 0))))] s.heap.size = A at hD hE ⊢
  have hA : ∀ q : Nat, s.heap.size ≤ q → A q := fun q h => by rw [← hAe]; exact Or.inr h
  have hS : va_S A s.heap s.heap [] := va_S.rf
  have hP : va_P G.1 nn_cls [(h0, .inr (0, [.ref y1, .int 0, .ref y2, .ref y3, .ref y4])), (y1, .inl (G.2 1, 180, .inl (fun _ => 0))), (y2, .inr (2, [.ref t1, .ref n1, .ref m1, .int 0, .int (-1), .int (-1)])), (t1, .inr (6, [.ref t2, .ref t3, .ref t4, .int 0, .int 0])), (t2, .inl (G.2 3, 181, .inr (.inr (.inr (.inr (fun _ => none)))))), (t3, .inl (G.2 0, 181, .inl (fun _ => 0))), (t4, .inl (G.2 0, 181, .inl (fun _ => 0))), (n1, .inr (5, [.ref n2, .int 0, .ref n3, .int 0])), (n3, .inl (G.2 0, 5, .inl (fun _ => 0))), (m1, .inr (1, [.ref m2, .ref m3, .ref m4, .int 0])), (m2, .inl (G.2 0, 180, .inl (fun _ => 0))), (m3, .inl (G.2 0, 180, .inl (fun _ => 0))), (m4, .inl (G.2 0, 180, .inl (fun _ => 0))), (o1, .inl (G.2 2, 1, .inr (.inl (fun _ => 0))))] s.heap := hP
  have hP0 := hP
  have hl := lv_entry ([.ref h0, .ref o1]) (n := 3) (Nat.le_of_ble_eq_true rfl)
  rw [lg_entry_eq]
  generalize (lg_sl ([.ref h0, .ref o1]) ++ List.replicate (3 - (lg_sl ([.ref h0, .ref o1])).length) Slot.unset).toArray = ls at hl ⊢
  have hl : lv_has ls 3 [(0, .ref h0), (1, .ref o1)] := hl
  refine lv_aload_n hx hb d_La_compile_0 rfl (lv_at hl 1 rfl) ?_
  refine lv_iconst (v := 0) hx hb d_La_compile_1 (by decide) ?_
  refine lv_aload_n hx hb d_La_compile_2 rfl (lv_at hl 0 rfl) ?_
  have hPc := hP.sub (ws' := [(h0, .inr (0, [.ref y1, .int 0, .ref y2, .ref y3, .ref y4])), (y1, .inl (G.2 1, 180, .inl (fun _ => 0))), (y2, .inr (2, [.ref t1, .ref n1, .ref m1, .int 0, .int (-1), .int (-1)])), (t1, .inr (6, [.ref t2, .ref t3, .ref t4, .int 0, .int 0])), (n1, .inr (5, [.ref n2, .int 0, .ref n3, .int 0])), (m1, .inr (1, [.ref m2, .ref m3, .ref m4, .int 0])), (t2, .inl (G.2 3, 181, .inr (.inr (.inr (.inr (fun _ => none)))))), (t3, .inl (G.2 0, 181, .inl (fun _ => 0))), (t4, .inl (G.2 0, 181, .inl (fun _ => 0))), (n3, .inl (G.2 0, 5, .inl (fun _ => 0))), (m2, .inl (G.2 0, 180, .inl (fun _ => 0))), (m3, .inl (G.2 0, 180, .inl (fun _ => 0))), (m4, .inl (G.2 0, 180, .inl (fun _ => 0)))]) [0, 1, 2, 3, 7, 9, 4, 5, 6, 8, 10, 11, 12] rfl
  have hDc := hD.sub (ws' := [(h0, .inr (0, [.ref y1, .int 0, .ref y2, .ref y3, .ref y4])), (y1, .inl (G.2 1, 180, .inl (fun _ => 0))), (y2, .inr (2, [.ref t1, .ref n1, .ref m1, .int 0, .int (-1), .int (-1)])), (t1, .inr (6, [.ref t2, .ref t3, .ref t4, .int 0, .int 0])), (n1, .inr (5, [.ref n2, .int 0, .ref n3, .int 0])), (m1, .inr (1, [.ref m2, .ref m3, .ref m4, .int 0])), (t2, .inl (G.2 3, 181, .inr (.inr (.inr (.inr (fun _ => none)))))), (t3, .inl (G.2 0, 181, .inl (fun _ => 0))), (t4, .inl (G.2 0, 181, .inl (fun _ => 0))), (n3, .inl (G.2 0, 5, .inl (fun _ => 0))), (m2, .inl (G.2 0, 180, .inl (fun _ => 0))), (m3, .inl (G.2 0, 180, .inl (fun _ => 0))), (m4, .inl (G.2 0, 180, .inl (fun _ => 0)))]) [0, 1, 2, 3, 7, 9, 4, 5, 6, 8, 10, 11, 12] (by decide) rfl
  have hFc := va_free (wc := [(h0, .inr (0, [.ref y1, .int 0, .ref y2, .ref y3, .ref y4])), (y1, .inl (G.2 1, 180, .inl (fun _ => 0))), (y2, .inr (2, [.ref t1, .ref n1, .ref m1, .int 0, .int (-1), .int (-1)])), (t1, .inr (6, [.ref t2, .ref t3, .ref t4, .int 0, .int 0])), (n1, .inr (5, [.ref n2, .int 0, .ref n3, .int 0])), (m1, .inr (1, [.ref m2, .ref m3, .ref m4, .int 0])), (t2, .inl (G.2 3, 181, .inr (.inr (.inr (.inr (fun _ => none)))))), (t3, .inl (G.2 0, 181, .inl (fun _ => 0))), (t4, .inl (G.2 0, 181, .inl (fun _ => 0))), (n3, .inl (G.2 0, 5, .inl (fun _ => 0))), (m2, .inl (G.2 0, 180, .inl (fun _ => 0))), (m3, .inl (G.2 0, 180, .inl (fun _ => 0))), (m4, .inl (G.2 0, 180, .inl (fun _ => 0)))]) hD hS hA [0, 1, 2, 3, 7, 9, 4, 5, 6, 8, 10, 11, 12] rfl
  refine nt_catchV (x0 := x0) (A := A) (As := []) (rest := [.int 0, .ref o1]) ⟨hx, hb, hml, hown, hts⟩ (c_NP_compile l hfl G tk _ h0 y1 y2 t1 n1 m1 t2 t3 t4 n3 m2 m3 m4 y3 y4 n2) (cwV 0 hts (nn_gV mw_396 mw_393 mw_394 mw_395 mw_87) rfl rfl rfl (by decide +kernel) ⟨Nat.le_of_ble_eq_true rfl, Nat.le_of_ble_eq_true rfl⟩) (ns_preV (va_recv hK hP rfl (q0 := 0) rfl) hPc hDc hK hN hE hS hFc) rfl hl.1 rfl (lv_room (Nat.le_of_ble_eq_true rfl)) d_La_compile_3 ⟨Nat.le_of_ble_eq_true rfl, Nat.le_of_ble_eq_true rfl⟩ htab (by simp [covers, hs1, hs2]) (by rw [hs4]; decide) (by rw [hs4]; exact hg _ mw_392) (va_Nw.use rfl hE.2.2.2.2.2.2.2.2.2.1) hS.2.2 hFc (fun x H locs hS => ?_)
  rw [hs3]
  refine W.widen (k := 1) (n := 6) (Nat.le_of_ble_eq_true rfl) (Nat.le_of_ble_eq_true rfl) ?_
  refine lv_astore_n (lv' := [(2, .ref x), (0, .ref h0), (1, .ref o1)]) hx hb d_La_compile_11 rfl hl (by decide) rfl (fun ls hl => ?_)
  refine lv_iconst (v := 1) hx hb d_La_compile_12 (by decide) ?_
  refine W.widen (k := 1) (n := 6) (Nat.le_of_ble_eq_true rfl) (Nat.le_of_ble_eq_true rfl) ?_
  exact W.iret (v := 1) hx hb hr (fun t ht hW => ⟨⟨1, (), rfl, rfl, trivial⟩, hS.F ht⟩) hS.2.2 d_La_compile_13

theorem mw_820 : (.methodLink R_La 15 y_NP_run : Cond) ∈ nn_gw := nn_at 820 (by decide +kernel) (by decide +kernel)
theorem mw_821 : (.instanceMethod y_NP_run : Cond) ∈ nn_gw := nn_at 821 (by decide +kernel) (by decide +kernel)
theorem mw_822 : (.selects R_NP y_NP_run y_NP_run : Cond) ∈ nn_gw := nn_at 822 (by decide +kernel) (by decide +kernel)
theorem mw_823 : (.code y_NP_run b_NP_run 3 (some .int) : Cond) ∈ nn_gw := nn_at 823 (by decide +kernel) (by decide +kernel)
theorem d_La_run_0 : decode b_La_run 0 = .ok (.aload_n 2, 1) := by decide +kernel
theorem d_La_run_1 : decode b_La_run 1 = .ok (.iconst 0, 1) := by decide +kernel
theorem d_La_run_2 : decode b_La_run 2 = .ok (.aload_n 0, 1) := by decide +kernel
theorem d_La_run_3 : decode b_La_run 3 = .ok (.iload_n 1, 1) := by decide +kernel
theorem d_La_run_4 : decode b_La_run 4 = .ok (.invokevirtual 15, 3) := by decide +kernel
theorem d_La_run_12 : decode b_La_run 12 = .ok (.astore_n 3, 1) := by decide +kernel
theorem d_La_run_13 : decode b_La_run 13 = .ok (.iconst 1, 1) := by decide +kernel
theorem d_La_run_14 : decode b_La_run 14 = .ok (.ireturn, 1) := by decide +kernel

set_option maxHeartbeats 4000000 in
set_option maxRecDepth 100000 in
theorem c_La_run1 (l : Launch) (hfl : l.flags = flags0) (G : nn_G) (tk : Nat → Nat) (sz : Nat) (h0 y1 y2 y3 y4 x1 x2 o1 : Nat) (n : Int32) (hn : n < 0 ∨ ¬ n ≤ 200) : Met l y_La_run w_La_run ({ frames := 7, cells := 1, slots := 6, locals := 222 }) (ns_P G tk [.ref h0, .int n, .ref o1] [(h0, .inr (0, [.ref y1, .int 0, .ref y2, .ref y3, .ref y4])), (y4, .inr (3, [.ref x1, .ref x2, .int 0, .int 0, .int 0, .int (-1), .int 0, .int 0])), (o1, .inl (G.2 2, 1, .inr (.inl (fun _ => 0))))] sz) (va_Qi (fun (r : Int32) (u : Unit) => r = 1) (fun u t => True) (va_A [(h0, .inr (0, [.ref y1, .int 0, .ref y2, .ref y3, .ref y4])), (y4, .inr (3, [.ref x1, .ref x2, .int 0, .int 0, .int 0, .int (-1), .int 0, .int 0])), (o1, .inl (G.2 2, 1, .inr (.inl (fun _ => 0))))] sz)) 1 6 (va_A [(h0, .inr (0, [.ref y1, .int 0, .ref y2, .ref y3, .ref y4])), (y4, .inr (3, [.ref x1, .ref x2, .int 0, .int 0, .int 0, .int (-1), .int 0, .int 0])), (o1, .inl (G.2 2, 1, .inr (.inl (fun _ => 0))))] sz) := by
  refine va_MetW (cc := b_La_run) (maxL := 4) (ret := some .int) (hh := [(0, 9, 12, 13)]) (by decide) rfl ?_
  intro p e s m args below meth c s₁ B hml hv
  obtain ⟨rfl, ⟨hsz, hP, hK, hD0, hN⟩, hE⟩ := hv
  have hx := B.exec
  have hb := B.bytes
  have hr := B.returns
  have hts := atoms_spec (ws := w_La_run) B.pre
  have hg : ∀ w ∈ nn_gw, w.before _ s = true := fun w h => hts w (List.mem_cons_of_mem _ h)
  have hown : s.vm.findClass R_La = some m.cls := findClass_of_methodNamed B.named
  have hlocks := B.notSynchronized
  obtain ⟨x0, htab, hs1, hs2, hs3, hs4⟩ := nt_tab B (hts _ List.mem_cons_self)
  subst hsz
  have hD := hD0.self (sz := s.heap.size)
  generalize hAe : va_A [(h0, .inr (0, [.ref y1, .int 0, .ref y2, .ref y3, .ref y4])), (y4, .inr (3, [.ref x1, .ref x2, .int 0, .int 0, .int 0, .int (-1), .int 0, .int 0])), (o1, .inl (G.2 2, 1, .inr (.inl (fun _ => 0))))] s.heap.size = A at hD hE ⊢
  have hA : ∀ q : Nat, s.heap.size ≤ q → A q := fun q h => by rw [← hAe]; exact Or.inr h
  have hS : va_S A s.heap s.heap [] := va_S.rf
  have hP : va_P G.1 nn_cls [(h0, .inr (0, [.ref y1, .int 0, .ref y2, .ref y3, .ref y4])), (y4, .inr (3, [.ref x1, .ref x2, .int 0, .int 0, .int 0, .int (-1), .int 0, .int 0])), (o1, .inl (G.2 2, 1, .inr (.inl (fun _ => 0))))] s.heap := hP
  have hP0 := hP
  have hl := lv_entry ([.ref h0, .int n, .ref o1]) (n := 4) (Nat.le_of_ble_eq_true rfl)
  rw [lg_entry_eq]
  generalize (lg_sl ([.ref h0, .int n, .ref o1]) ++ List.replicate (4 - (lg_sl ([.ref h0, .int n, .ref o1])).length) Slot.unset).toArray = ls at hl ⊢
  have hl : lv_has ls 4 [(0, .ref h0), (1, .int n), (2, .ref o1)] := hl
  refine lv_aload_n hx hb d_La_run_0 rfl (lv_at hl 2 rfl) ?_
  refine lv_iconst (v := 0) hx hb d_La_run_1 (by decide) ?_
  refine lv_aload_n hx hb d_La_run_2 rfl (lv_at hl 0 rfl) ?_
  refine lv_iload_n hx hb d_La_run_3 rfl (lv_at hl 1 rfl) ?_
  have hPc := hP.sub (ws' := [(h0, .inr (0, [.ref y1, .int 0, .ref y2, .ref y3, .ref y4]))]) [0] rfl
  have hDc := hD.sub (ws' := [(h0, .inr (0, [.ref y1, .int 0, .ref y2, .ref y3, .ref y4]))]) [0] (by decide) rfl
  have hFc := va_free (wc := [(h0, .inr (0, [.ref y1, .int 0, .ref y2, .ref y3, .ref y4]))]) hD hS hA [0] rfl
  refine nt_catchV (x0 := x0) (A := A) (As := [.int n]) (rest := [.int 0, .ref o1]) ⟨hx, hb, hml, hown, hts⟩ (c_NP_run1 l hfl G tk _ h0 y1 y2 y3 y4 n hn) (cwV 1 hts (nn_gV mw_823 mw_820 mw_821 mw_822 mw_87) rfl rfl rfl (by decide +kernel) ⟨Nat.le_of_ble_eq_true rfl, Nat.le_of_ble_eq_true rfl⟩) (ns_preV (va_recv hK hP rfl (q0 := 0) rfl) hPc hDc hK hN hE hS hFc) rfl hl.1 rfl (lv_room (Nat.le_of_ble_eq_true rfl)) d_La_run_4 ⟨Nat.le_of_ble_eq_true rfl, Nat.le_of_ble_eq_true rfl⟩ htab (by simp [covers, hs1, hs2]) (by rw [hs4]; decide) (by rw [hs4]; exact hg _ mw_392) (va_Nw.use rfl hE.2.2.2.2.2.2.2.2.2.1) hS.2.2 hFc (fun x H locs hS => ?_)
  rw [hs3]
  refine W.widen (k := 1) (n := 6) (Nat.le_of_ble_eq_true rfl) (Nat.le_of_ble_eq_true rfl) ?_
  refine lv_astore_n (lv' := [(3, .ref x), (0, .ref h0), (1, .int n), (2, .ref o1)]) hx hb d_La_run_12 rfl hl (by decide) rfl (fun ls hl => ?_)
  refine lv_iconst (v := 1) hx hb d_La_run_13 (by decide) ?_
  refine W.widen (k := 1) (n := 6) (Nat.le_of_ble_eq_true rfl) (Nat.le_of_ble_eq_true rfl) ?_
  exact W.iret (v := 1) hx hb hr (fun t ht hW => ⟨⟨1, (), rfl, rfl, trivial⟩, hS.F ht⟩) hS.2.2 d_La_run_14

theorem d_La_run_7 : decode b_La_run 7 = .ok (.i2l, 1) := by decide +kernel
theorem d_La_run_8 : decode b_La_run 8 = .ok (.lastore, 1) := by decide +kernel
theorem d_La_run_9 : decode b_La_run 9 = .ok (.goto 6, 3) := by decide +kernel
theorem d_La_run_15 : decode b_La_run 15 = .ok (.iconst 0, 1) := by decide +kernel
theorem d_La_run_16 : decode b_La_run 16 = .ok (.ireturn, 1) := by decide +kernel

set_option maxHeartbeats 4000000 in
set_option maxRecDepth 100000 in
theorem c_La_run0 (l : Launch) (hfl : l.flags = flags0) (G : nn_G) (tk : Nat → Nat) (sz : Nat) (h0 y1 y2 y3 y4 x1 x2 o1 : Nat) (n : Int32) (hn0 : ¬ n < 0) (hn1 : n ≤ 200) : Met l y_La_run w_La_run ({ frames := 2, cells := 0, slots := 0, locals := 42 }) (ns_P G tk [.ref h0, .int n, .ref o1] [(h0, .inr (0, [.ref y1, .int 0, .ref y2, .ref y3, .ref y4])), (y4, .inr (3, [.ref x1, .ref x2, .int 0, .int 0, .int 0, .int (-1), .int 0, .int 0])), (o1, .inl (G.2 2, 1, .inr (.inl (fun _ => 0))))] sz) (va_Qi (fun (r : Int32) (u : Unit) => r = 0) (fun u t => va_P G.1 nn_cls [(o1, .inl (G.2 2, 1, .inr (.inl (vp_updL (fun _ => 0) (0 : Int32).toNatClampNeg (0 : Int64)))))] t.heap ∧ va_D (va_A [(h0, .inr (0, [.ref y1, .int 0, .ref y2, .ref y3, .ref y4])), (y4, .inr (3, [.ref x1, .ref x2, .int 0, .int 0, .int 0, .int (-1), .int 0, .int 0])), (o1, .inl (G.2 2, 1, .inr (.inl (fun _ => 0))))] sz) [(o1, .inl (G.2 2, 1, .inr (.inl (vp_updL (fun _ => 0) (0 : Int32).toNatClampNeg (0 : Int64)))))]) (va_A [(h0, .inr (0, [.ref y1, .int 0, .ref y2, .ref y3, .ref y4])), (y4, .inr (3, [.ref x1, .ref x2, .int 0, .int 0, .int 0, .int (-1), .int 0, .int 0])), (o1, .inl (G.2 2, 1, .inr (.inl (fun _ => 0))))] sz)) 0 0 (va_A [(h0, .inr (0, [.ref y1, .int 0, .ref y2, .ref y3, .ref y4])), (y4, .inr (3, [.ref x1, .ref x2, .int 0, .int 0, .int 0, .int (-1), .int 0, .int 0])), (o1, .inl (G.2 2, 1, .inr (.inl (fun _ => 0))))] sz) := by
  refine va_MetW (cc := b_La_run) (maxL := 4) (ret := some .int) (hh := [(0, 9, 12, 13)]) (by decide) rfl ?_
  intro p e s m args below meth c s₁ B hml hv
  obtain ⟨rfl, ⟨hsz, hP, hK, hD0, hN⟩, hE⟩ := hv
  have hx := B.exec
  have hb := B.bytes
  have hr := B.returns
  have hts := atoms_spec (ws := w_La_run) B.pre
  have hg : ∀ w ∈ nn_gw, w.before _ s = true := fun w h => hts w (List.mem_cons_of_mem _ h)
  have hown : s.vm.findClass R_La = some m.cls := findClass_of_methodNamed B.named
  have hlocks := B.notSynchronized
  obtain ⟨x0, htab, hs1, hs2, hs3, hs4⟩ := nt_tab B (hts _ List.mem_cons_self)
  subst hsz
  have hD := hD0.self (sz := s.heap.size)
  generalize hAe : va_A [(h0, .inr (0, [.ref y1, .int 0, .ref y2, .ref y3, .ref y4])), (y4, .inr (3, [.ref x1, .ref x2, .int 0, .int 0, .int 0, .int (-1), .int 0, .int 0])), (o1, .inl (G.2 2, 1, .inr (.inl (fun _ => 0))))] s.heap.size = A at hD hE ⊢
  have hA : ∀ q : Nat, s.heap.size ≤ q → A q := fun q h => by rw [← hAe]; exact Or.inr h
  have hS : va_S A s.heap s.heap [] := va_S.rf
  have hP : va_P G.1 nn_cls [(h0, .inr (0, [.ref y1, .int 0, .ref y2, .ref y3, .ref y4])), (y4, .inr (3, [.ref x1, .ref x2, .int 0, .int 0, .int 0, .int (-1), .int 0, .int 0])), (o1, .inl (G.2 2, 1, .inr (.inl (fun _ => 0))))] s.heap := hP
  have hP0 := hP
  have hl := lv_entry ([.ref h0, .int n, .ref o1]) (n := 4) (Nat.le_of_ble_eq_true rfl)
  rw [lg_entry_eq]
  generalize (lg_sl ([.ref h0, .int n, .ref o1]) ++ List.replicate (4 - (lg_sl ([.ref h0, .int n, .ref o1])).length) Slot.unset).toArray = ls at hl ⊢
  have hl : lv_has ls 4 [(0, .ref h0), (1, .int n), (2, .ref o1)] := hl
  refine lv_aload_n hx hb d_La_run_0 rfl (lv_at hl 2 rfl) ?_
  refine lv_iconst (v := 0) hx hb d_La_run_1 (by decide) ?_
  refine lv_aload_n hx hb d_La_run_2 rfl (lv_at hl 0 rfl) ?_
  refine lv_iload_n hx hb d_La_run_3 rfl (lv_at hl 1 rfl) ?_
  have hPc := hP.sub (ws' := [(h0, .inr (0, [.ref y1, .int 0, .ref y2, .ref y3, .ref y4])), (y4, .inr (3, [.ref x1, .ref x2, .int 0, .int 0, .int 0, .int (-1), .int 0, .int 0]))]) [0, 1] rfl
  have hDc := hD.sub (ws' := [(h0, .inr (0, [.ref y1, .int 0, .ref y2, .ref y3, .ref y4])), (y4, .inr (3, [.ref x1, .ref x2, .int 0, .int 0, .int 0, .int (-1), .int 0, .int 0]))]) [0, 1] (by decide) rfl
  refine vp_callSi (va_Run.run (va_runV (As := [.int n]) (rest := [.int 0, .ref o1]) ⟨hx, hb, hml, hown, hts⟩ (c_NP_run l G _ h0 y1 y2 y3 y4 x1 x2 n hn0 hn1) (cwV 1 hts (nn_gV mw_823 mw_820 mw_821 mw_822 mw_87) rfl rfl rfl (by decide +kernel) ⟨Nat.le_of_ble_eq_true rfl, Nat.le_of_ble_eq_true rfl⟩) (nn_preV (va_recv hK hP rfl (q0 := 0) rfl) hPc hDc hK hN) rfl rfl hl.1 rfl (lv_room (Nat.le_of_ble_eq_true rfl)) d_La_run_4 ⟨(Nat.le_of_ble_eq_true rfl), (Nat.le_of_ble_eq_true rfl)⟩)) (fun r1 er1 => ?_)
  subst er1
  refine lv_i2l (v := (0 : Int64)) hx hb d_La_run_7 (by decide) ?_
  refine va_last hx hb hK hP hD hS 2 2 rfl rfl (nb_in rfl) d_La_run_8 (fun H locs hP hD hS => ?_)
  have hP : va_P G.1 nn_cls [(h0, .inr (0, [.ref y1, .int 0, .ref y2, .ref y3, .ref y4])), (y4, .inr (3, [.ref x1, .ref x2, .int 0, .int 0, .int 0, .int (-1), .int 0, .int 0])), (o1, .inl (G.2 2, 1, .inr (.inl (vp_updL (fun _ => 0) (0 : Int32).toNatClampNeg (0 : Int64)))))] H := hP
  have hD : va_D A [(h0, .inr (0, [.ref y1, .int 0, .ref y2, .ref y3, .ref y4])), (y4, .inr (3, [.ref x1, .ref x2, .int 0, .int 0, .int 0, .int (-1), .int 0, .int 0])), (o1, .inl (G.2 2, 1, .inr (.inl (vp_updL (fun _ => 0) (0 : Int32).toNatClampNeg (0 : Int64)))))] := hD
  refine lv_goto (tgt := 15) hx hb d_La_run_9 rfl ?_
  refine lv_iconst (v := 0) hx hb d_La_run_15 (by decide) ?_
  refine W.widen (k := 0) (n := 0) (Nat.le_of_ble_eq_true rfl) (Nat.le_of_ble_eq_true rfl) ?_
  have hP9 := hP.sub (ws' := [(o1, .inl (G.2 2, 1, .inr (.inl (vp_updL (fun _ => 0) (0 : Int32).toNatClampNeg (0 : Int64)))))]) [2] rfl
  have hD9 := hD.sub (ws' := [(o1, .inl (G.2 2, 1, .inr (.inl (vp_updL (fun _ => 0) (0 : Int32).toNatClampNeg (0 : Int64)))))]) [2] (by decide) rfl
  exact W.iret (v := 0) hx hb hr (fun t ht hW => ⟨⟨0, (), rfl, rfl, ⟨by rw [ht]; exact hP9, hD9⟩⟩, hS.F ht⟩) hS.2.2 d_La_run_16
